-- 93
def jf_O_frozen (a1 : Int) (Z : dz_Z) : Option (Int × dz_Z) := Option.bind (jf_O_isShower a1 Z) fun q1 => if q1 = true then (dz_lp (fun (s3 : Int × Int × dz_Z) => if hz_isP (s3.2.2 0 2 0).toNat then if dz_c (s3.2.2 ((s3.2.2 0 2 0).toNat) 6 0) ≤ dz_c s3.2.1 then (some (Sum.inr (s3.1, s3.2.2))) else (if hz_isS (s3.2.2 0 3 0).toNat then if 0 ≤ dz_c s3.2.1 ∧ dz_c s3.2.1 < 8 then if dz_c (s3.2.2 ((s3.2.2 0 3 0).toNat) 2 (dz_c s3.2.1)) = 5 then (some (Sum.inl (s3.1, s3.2.1 + 1, s3.2.2))) else (dz_a (dz_u s3.2.2 ((s3.2.2 0 3 0).toNat) 2 (dz_c s3.2.1) 5) fun Z10 => Option.bind (jf_O_distance a1 Z10) fun q11 => Option.bind (α := Int) (if dz_c q11.1 ≠ 0 then (some 0) else (some (dz_sl 1 s3.2.1))) (fun (q13 : Int) => if hz_isS (q11.2 0 3 0).toNat then dz_a (dz_u q11.2 ((q11.2 0 3 0).toNat) 2 (dz_c s3.2.1) (s3.2.2 ((s3.2.2 0 3 0).toNat) 2 (dz_c s3.2.1))) fun Z15 => some (Sum.inl (dz_or s3.1 q13, s3.2.1 + 1, Z15)) else none)) else none else none) else none) 5000 (0, 0, Z)) else (some ((-1), Z))
set_option maxRecDepth 20000 in
theorem jw_O_frozen {X : Option (List Int32)} {D : Nat} {Q : Option Value → mm_H → Prop} (a1 : Int) (Z : dz_Z) (H : dz_p (jf_O_frozen a1 Z) (fun q => Q (some (dz_I q.1)) (hz_0 q.2))) : mm_Wp X (D + 6) mm_r93 0 [some (.ref 0), some (dz_I a1), none, none, none] [] (hz_0 Z) Q := by
  unfold jf_O_frozen at H
  refine wp_s (i := .aload_n 0) (n := 1) (pc' := 1) (st' := [.ref 0]) rfl rfl ?_
  refine wp_s (i := .iload_n 1) (n := 1) (pc' := 2) (st' := [dz_I a1, .ref 0]) rfl rfl ?_
  refine wq_cv (Dq := (D + 5)) (r' := mm_r105) (as0 := [dz_I a1]) (rest := []) (ls' := [some (.ref 0), some (dz_I a1)]) (pc' := 5) rfl rfl rfl rfl ho_O rfl rfl rfl ?_
  refine jw_O_isShower (X := X) (D := D + 5) a1 Z (dz_pm (dz_bi H) (fun q1 H => ?_))
  show mm_Wp X (D + 6) mm_r93 5 [some (.ref 0), some (dz_I a1), none, none, none] [dz_B q1] (hz_0 Z) Q
  refine wq_if (p := q1 = true) (tt := 10) (pc' := 8) rfl rfl (cb_ne) rfl (fun c2 => ?_) (fun c2 => ?_)
  · replace H := dz_it c2 H
    refine wp_s (i := .iconst 0) (n := 1) (pc' := 11) (st' := [dz_I 0]) rfl rfl ?_
    refine wq_st (k := 2) (i := .istore_n 2) (n := 1) (ls' := [some (.ref 0), some (dz_I a1), some (dz_I 0), none, none]) (pc' := 12) rfl rfl rfl rfl rfl ?_
    refine wp_s (i := .iconst 0) (n := 1) (pc' := 13) (st' := [dz_I 0]) rfl rfl ?_
    refine wq_st (k := 3) (i := .istore_n 3) (n := 1) (ls' := [some (.ref 0), some (dz_I a1), some (dz_I 0), some (dz_I 0), none]) (pc' := 14) rfl rfl rfl rfl rfl ?_
    refine dz_lpi (P := fun (s3 : Int × Int × dz_Z) => ∀ (u4 : Option Int32), mm_Wp X (D + 6) mm_r93 14 [some (.ref 0), some (dz_I a1), some (dz_I s3.1), some (dz_I s3.2.1), Option.map Value.int u4] [] (hz_0 s3.2.2) Q) (fun s3 H => ?_) 5000 (0, 0, Z) H none
    intro u4
    refine wp_s (i := .iload_n 3) (n := 1) (pc' := 15) (st' := [dz_I s3.2.1]) rfl rfl ?_
    refine wp_s (i := .aload_n 0) (n := 1) (pc' := 16) (st' := [.ref 0, dz_I s3.2.1]) rfl rfl ?_
    obtain ⟨k5, H⟩ := dz_ck H
    refine wq_gd (idx := 24) (pc' := 19) rfl rfl ho_O rfl rfl ?_
    refine wq_gi (idx := 114) (pc' := 22) rfl rfl (ho_P k5) rfl rfl ?_
    refine wq_ic (p := dz_c (s3.2.2 ((s3.2.2 0 2 0).toNat) 6 0) ≤ dz_c s3.2.1) (tt := 87) (pc' := 25) rfl rfl (cq_ge rfl rfl) rfl (fun c6 => ?_) (fun c6 => ?_)
    · replace H := dz_it c6 H
      refine wp_s (i := .iload_n 2) (n := 1) (pc' := 88) (st' := [dz_I s3.1]) rfl rfl ?_
      refine wq_ri rfl rfl ?_
      replace H := dz_out H
      replace H := dz_sm H
      exact H
    · replace H := dz_if c6 H
      refine wp_s (i := .aload_n 0) (n := 1) (pc' := 26) (st' := [.ref 0]) rfl rfl ?_
      obtain ⟨k7, H⟩ := dz_ck H
      refine wq_gd (idx := 31) (pc' := 29) rfl rfl ho_O rfl rfl ?_
      refine wq_gr (idx := 149) (a := (s3.2.2 0 3 0).toNat + 3) (pc' := 32) rfl rfl (ho_S k7) rfl rfl ?_
      refine wp_s (i := .iload_n 3) (n := 1) (pc' := 33) (st' := [dz_I s3.2.1, .ref ((s3.2.2 0 3 0).toNat + 3)]) rfl rfl ?_
      obtain ⟨k8, H⟩ := dz_ck H
      refine wq_ia (j' := dz_c s3.2.1) (pc' := 34) rfl (ha_S_2 k7) rfl k8.1 k8.2 rfl ?_
      refine wq_st (k := 4) (i := .istore 4) (n := 2) (ls' := [some (.ref 0), some (dz_I a1), some (dz_I s3.1), some (dz_I s3.2.1), some (dz_I (s3.2.2 ((s3.2.2 0 3 0).toNat) 2 (dz_c s3.2.1)))]) (pc' := 36) rfl rfl rfl rfl rfl ?_
      refine wp_s (i := .iload 4) (n := 2) (pc' := 38) (st' := [dz_I (s3.2.2 ((s3.2.2 0 3 0).toNat) 2 (dz_c s3.2.1))]) rfl rfl ?_
      refine wp_s (i := .iconst 5) (n := 1) (pc' := 39) (st' := [dz_I 5, dz_I (s3.2.2 ((s3.2.2 0 3 0).toNat) 2 (dz_c s3.2.1))]) rfl rfl ?_
      refine wq_ic (p := dz_c (s3.2.2 ((s3.2.2 0 3 0).toNat) 2 (dz_c s3.2.1)) = 5) (tt := 81) (pc' := 42) rfl rfl (cq_eq rfl dk_5) rfl (fun c9 => ?_) (fun c9 => ?_)
      · replace H := dz_it c9 H
        refine wq_inc (k := 3) (d := 1) (x := s3.2.1) (ls' := [some (.ref 0), some (dz_I a1), some (dz_I s3.1), some (dz_I (s3.2.1 + 1)), some (dz_I (s3.2.2 ((s3.2.2 0 3 0).toNat) 2 (dz_c s3.2.1)))]) (pc' := 84) rfl rfl rfl rfl ?_
        refine wp_s (i := .goto (-70)) (n := 3) (pc' := 14) (st' := []) rfl rfl ?_
        replace H := dz_back H
        exact H (some (Int32.ofInt (s3.2.2 ((s3.2.2 0 3 0).toNat) 2 (dz_c s3.2.1))))
      · replace H := dz_if c9 H
        refine wp_s (i := .aload_n 0) (n := 1) (pc' := 43) (st' := [.ref 0]) rfl rfl ?_
        refine wq_gd (idx := 31) (pc' := 46) rfl rfl ho_O rfl rfl ?_
        refine wq_gr (idx := 149) (a := (s3.2.2 0 3 0).toNat + 3) (pc' := 49) rfl rfl (ho_S k7) rfl rfl ?_
        refine wp_s (i := .iload_n 3) (n := 1) (pc' := 50) (st' := [dz_I s3.2.1, .ref ((s3.2.2 0 3 0).toNat + 3)]) rfl rfl ?_
        refine wp_s (i := .iconst 5) (n := 1) (pc' := 51) (st' := [dz_I 5, dz_I s3.2.1, .ref ((s3.2.2 0 3 0).toNat + 3)]) rfl rfl ?_
        refine wq_is (j' := dz_c s3.2.1) (x := 5) (pc' := 52) rfl (ha_S_2 k7) rfl k8.1 k8.2 rfl (fun Z10 eZ10 => ?_)
        replace H := dz_le H Z10 eZ10
        clear eZ10
        refine wp_s (i := .iload_n 2) (n := 1) (pc' := 53) (st' := [dz_I s3.1]) rfl rfl ?_
        refine wp_s (i := .aload_n 0) (n := 1) (pc' := 54) (st' := [.ref 0, dz_I s3.1]) rfl rfl ?_
        refine wp_s (i := .iload_n 1) (n := 1) (pc' := 55) (st' := [dz_I a1, .ref 0, dz_I s3.1]) rfl rfl ?_
        refine wq_cv (Dq := (D + 5)) (r' := mm_r115) (as0 := [dz_I a1]) (rest := [dz_I s3.1]) (ls' := [some (.ref 0), some (dz_I a1)]) (pc' := 58) rfl rfl rfl rfl ho_O rfl rfl rfl ?_
        refine jw_O_distance (X := X) (D := D + 0) a1 Z10 (dz_pm (dz_bi H) (fun q11 H => ?_))
        show mm_Wp X (D + 6) mm_r93 58 [some (.ref 0), some (dz_I a1), some (dz_I s3.1), some (dz_I s3.2.1), some (dz_I (s3.2.2 ((s3.2.2 0 3 0).toNat) 2 (dz_c s3.2.1)))] [dz_I q11.1, dz_I s3.1] (hz_0 q11.2) Q
        refine dz_jn (P := fun (q13 : Int) => mm_Wp X (D + 6) mm_r93 68 [some (.ref 0), some (dz_I a1), some (dz_I s3.1), some (dz_I s3.2.1), some (dz_I (s3.2.2 ((s3.2.2 0 3 0).toNat) 2 (dz_c s3.2.1)))] [dz_I q13, dz_I s3.1] (hz_0 q11.2) Q) (dz_bi H) (fun q13 H => ?_) (fun H => ?_)
        · skip
          refine wq_2 (i := .ior) (z := dz_or s3.1 q13) (pc' := 69) rfl rfl (op_or _ _) rfl ?_
          refine wq_st (k := 2) (i := .istore_n 2) (n := 1) (ls' := [some (.ref 0), some (dz_I a1), some (dz_I (dz_or s3.1 q13)), some (dz_I s3.2.1), some (dz_I (s3.2.2 ((s3.2.2 0 3 0).toNat) 2 (dz_c s3.2.1)))]) (pc' := 70) rfl rfl rfl rfl rfl ?_
          refine wp_s (i := .aload_n 0) (n := 1) (pc' := 71) (st' := [.ref 0]) rfl rfl ?_
          obtain ⟨k14, H⟩ := dz_ck H
          refine wq_gd (idx := 31) (pc' := 74) rfl rfl ho_O rfl rfl ?_
          refine wq_gr (idx := 149) (a := (q11.2 0 3 0).toNat + 3) (pc' := 77) rfl rfl (ho_S k14) rfl rfl ?_
          refine wp_s (i := .iload_n 3) (n := 1) (pc' := 78) (st' := [dz_I s3.2.1, .ref ((q11.2 0 3 0).toNat + 3)]) rfl rfl ?_
          refine wp_s (i := .iload 4) (n := 2) (pc' := 80) (st' := [dz_I (s3.2.2 ((s3.2.2 0 3 0).toNat) 2 (dz_c s3.2.1)), dz_I s3.2.1, .ref ((q11.2 0 3 0).toNat + 3)]) rfl rfl ?_
          refine wq_is (j' := dz_c s3.2.1) (x := s3.2.2 ((s3.2.2 0 3 0).toNat) 2 (dz_c s3.2.1)) (pc' := 81) rfl (ha_S_2 k14) rfl k8.1 k8.2 rfl (fun Z15 eZ15 => ?_)
          replace H := dz_le H Z15 eZ15
          clear eZ15
          refine wq_inc (k := 3) (d := 1) (x := s3.2.1) (ls' := [some (.ref 0), some (dz_I a1), some (dz_I (dz_or s3.1 q13)), some (dz_I (s3.2.1 + 1)), some (dz_I (s3.2.2 ((s3.2.2 0 3 0).toNat) 2 (dz_c s3.2.1)))]) (pc' := 84) rfl rfl rfl rfl ?_
          refine wp_s (i := .goto (-70)) (n := 3) (pc' := 14) (st' := []) rfl rfl ?_
          replace H := dz_back H
          exact H (some (Int32.ofInt (s3.2.2 ((s3.2.2 0 3 0).toNat) 2 (dz_c s3.2.1))))
        · skip
          refine wq_if (p := dz_c q11.1 ≠ 0) (tt := 67) (pc' := 61) rfl rfl (cz_ne rfl) rfl (fun c16 => ?_) (fun c16 => ?_)
          · replace H := dz_it c16 H
            refine wp_s (i := .iconst 0) (n := 1) (pc' := 68) (st' := [dz_I 0, dz_I s3.1]) rfl rfl ?_
            replace H := dz_sm H
            exact H
          · replace H := dz_if c16 H
            refine wp_s (i := .iconst 1) (n := 1) (pc' := 62) (st' := [dz_I 1, dz_I s3.1]) rfl rfl ?_
            refine wp_s (i := .iload_n 3) (n := 1) (pc' := 63) (st' := [dz_I s3.2.1, dz_I 1, dz_I s3.1]) rfl rfl ?_
            refine wq_2 (i := .ishl) (z := dz_sl 1 s3.2.1) (pc' := 64) rfl rfl (op_shl _ _) rfl ?_
            refine wp_s (i := .goto 4) (n := 3) (pc' := 68) (st' := [dz_I (dz_sl 1 s3.2.1), dz_I s3.1]) rfl rfl ?_
            replace H := dz_sm H
            exact H
  · replace H := dz_if c2 H
    refine wp_s (i := .iconst (-1)) (n := 1) (pc' := 9) (st' := [dz_I (-1)]) rfl rfl ?_
    refine wq_ri rfl rfl ?_
    replace H := dz_sm H
    exact H
-- 94
def jf_O_lasts (a1 : Int) (a2 : Int) (Z : dz_Z) : Option (Int × dz_Z) := Option.bind (jf_O_isShower a1 Z) fun q1 => if q1 = false then (some ((-1), Z)) else (Option.bind (jf_O_isSpout a2 Z) fun q3 => if q3 = true then (Option.bind (jf_F_dryUp 55 Z) fun q5 => dz_lp (fun (s6 : Int × dz_Z) => if 99 < dz_c s6.1 then (some (Sum.inr ((-4), s6.2))) else (dz_lp (fun (s9 : Int × dz_Z) => if hz_isS (s9.2 0 3 0).toNat then if 0 ≤ dz_c a1 ∧ dz_c a1 < 3 then if dz_c (s9.2 ((s9.2 0 3 0).toNat) 3 (dz_c a1)) ≤ dz_c s9.1 then (if hz_isP (s9.2 0 2 0).toNat then Option.bind (jf_F_isBroken 55 ((s9.2 0 2 0).toNat) a2 s9.2) fun q14 => if q14 = false then (some (Sum.inr (Sum.inl (s6.1 + 1, s9.2)))) else (some (Sum.inr (Sum.inr (s6.1, s9.2)))) else none) else (if hz_isP (s9.2 0 2 0).toNat then if 0 ≤ dz_c s9.1 ∧ dz_c s9.1 < 12 then Option.bind (jf_F_passSecond 55 ((s9.2 0 2 0).toNat) ((s9.2 0 3 0).toNat) (s9.2 ((s9.2 0 3 0).toNat) (20 + Int.toNat (dz_c a1)) (dz_c s9.1)) s9.2) fun q18 => some (Sum.inl (s9.1 + 1, q18.2)) else none else none) else none else none) 5000 (0, s6.2))) 5000 (1, q5)) else (some ((-1), Z)))
set_option maxRecDepth 20000 in
theorem jw_O_lasts {X : Option (List Int32)} {D : Nat} {Q : Option Value → mm_H → Prop} (a1 : Int) (a2 : Int) (Z : dz_Z) (H : dz_p (jf_O_lasts a1 a2 Z) (fun q => Q (some (dz_I q.1)) (hz_0 q.2))) : mm_Wp X (D + 4) mm_r94 0 [some (.ref 0), some (dz_I a1), some (dz_I a2), none, none, none] [] (hz_0 Z) Q := by
  unfold jf_O_lasts at H
  refine wp_s (i := .aload_n 0) (n := 1) (pc' := 1) (st' := [.ref 0]) rfl rfl ?_
  refine wp_s (i := .iload_n 1) (n := 1) (pc' := 2) (st' := [dz_I a1, .ref 0]) rfl rfl ?_
  refine wq_cv (Dq := (D + 3)) (r' := mm_r105) (as0 := [dz_I a1]) (rest := []) (ls' := [some (.ref 0), some (dz_I a1)]) (pc' := 5) rfl rfl rfl rfl ho_O rfl rfl rfl ?_
  refine jw_O_isShower (X := X) (D := D + 3) a1 Z (dz_pm (dz_bi H) (fun q1 H => ?_))
  show mm_Wp X (D + 4) mm_r94 5 [some (.ref 0), some (dz_I a1), some (dz_I a2), none, none, none] [dz_B q1] (hz_0 Z) Q
  refine wq_if (p := q1 = false) (tt := 16) (pc' := 8) rfl rfl (cb_eq) rfl (fun c2 => ?_) (fun c2 => ?_)
  · replace H := dz_it c2 H
    refine wp_s (i := .iconst (-1)) (n := 1) (pc' := 17) (st' := [dz_I (-1)]) rfl rfl ?_
    refine wq_ri rfl rfl ?_
    replace H := dz_sm H
    exact H
  · replace H := dz_if c2 H
    refine wp_s (i := .aload_n 0) (n := 1) (pc' := 9) (st' := [.ref 0]) rfl rfl ?_
    refine wp_s (i := .iload_n 2) (n := 1) (pc' := 10) (st' := [dz_I a2, .ref 0]) rfl rfl ?_
    refine wq_cv (Dq := (D + 3)) (r' := mm_r104) (as0 := [dz_I a2]) (rest := []) (ls' := [some (.ref 0), some (dz_I a2)]) (pc' := 13) rfl rfl rfl rfl ho_O rfl rfl rfl ?_
    refine jw_O_isSpout (X := X) (D := D + 3) a2 Z (dz_pm (dz_bi H) (fun q3 H => ?_))
    show mm_Wp X (D + 4) mm_r94 13 [some (.ref 0), some (dz_I a1), some (dz_I a2), none, none, none] [dz_B q3] (hz_0 Z) Q
    refine wq_if (p := q3 = true) (tt := 18) (pc' := 16) rfl rfl (cb_ne) rfl (fun c4 => ?_) (fun c4 => ?_)
    · replace H := dz_it c4 H
      refine wp_s (i := .aload_n 0) (n := 1) (pc' := 19) (st' := [.ref 0]) rfl rfl ?_
      refine wq_gr (idx := 45) (a := 54) (pc' := 22) rfl rfl ho_O rfl rfl ?_
      refine wq_gr (idx := 235) (a := 55) (pc' := 25) rfl rfl ho_C rfl rfl ?_
      refine wp_s (i := .astore_n 3) (n := 1) (pc' := 26) (ls' := [some (.ref 0), some (dz_I a1), some (dz_I a2), some (.ref 55), none, none]) (st' := []) rfl rfl ?_
      refine wp_s (i := .aload_n 3) (n := 1) (pc' := 27) (st' := [.ref 55]) rfl rfl ?_
      refine wq_cv (Dq := (D + 3)) (r' := mm_r10) (as0 := []) (rest := []) (ls' := [some (.ref 55)]) (pc' := 30) rfl rfl rfl rfl (ho_F (Or.inr (Or.inl rfl))) rfl rfl rfl ?_
      refine jw_F_dryUp (X := X) (D := D + 2) 55 (Or.inr (Or.inl rfl)) Z (dz_pm (dz_bi H) (fun q5 H => ?_))
      show mm_Wp X (D + 4) mm_r94 30 [some (.ref 0), some (dz_I a1), some (dz_I a2), some (.ref 55), none, none] [] (hz_0 q5) Q
      refine wp_s (i := .iconst 1) (n := 1) (pc' := 31) (st' := [dz_I 1]) rfl rfl ?_
      refine wq_st (k := 4) (i := .istore 4) (n := 2) (ls' := [some (.ref 0), some (dz_I a1), some (dz_I a2), some (.ref 55), some (dz_I 1), none]) (pc' := 33) rfl rfl rfl rfl rfl ?_
      refine dz_lpi (P := fun (s6 : Int × dz_Z) => ∀ (u7 : Option Int32), mm_Wp X (D + 4) mm_r94 33 [some (.ref 0), some (dz_I a1), some (dz_I a2), some (.ref 55), some (dz_I s6.1), Option.map Value.int u7] [] (hz_0 s6.2) Q) (fun s6 H => ?_) 5000 (1, q5) H none
      intro u7
      refine wp_s (i := .iload 4) (n := 2) (pc' := 35) (st' := [dz_I s6.1]) rfl rfl ?_
      refine wp_s (i := .bipush 99) (n := 2) (pc' := 37) (st' := [dz_I 99, dz_I s6.1]) rfl rfl ?_
      refine wq_ic (p := 99 < dz_c s6.1) (tt := 109) (pc' := 40) rfl rfl (cq_gt rfl dk_99) rfl (fun c8 => ?_) (fun c8 => ?_)
      · replace H := dz_it c8 H
        refine wp_s (i := .bipush (-4)) (n := 2) (pc' := 111) (st' := [dz_I (-4)]) rfl rfl ?_
        refine wq_ri rfl rfl ?_
        replace H := dz_out H
        replace H := dz_sm H
        exact H
      · replace H := dz_if c8 H
        refine wp_s (i := .iconst 0) (n := 1) (pc' := 41) (st' := [dz_I 0]) rfl rfl ?_
        refine wq_st (k := 5) (i := .istore 5) (n := 2) (ls' := [some (.ref 0), some (dz_I a1), some (dz_I a2), some (.ref 55), some (dz_I s6.1), some (dz_I 0)]) (pc' := 43) rfl rfl rfl rfl rfl ?_
        refine dz_lpi (P := fun (s9 : Int × dz_Z) => mm_Wp X (D + 4) mm_r94 43 [some (.ref 0), some (dz_I a1), some (dz_I a2), some (.ref 55), some (dz_I s6.1), some (dz_I s9.1)] [] (hz_0 s9.2) Q) (fun s9 H => ?_) 5000 (0, s6.2) H
        refine wp_s (i := .iload 5) (n := 2) (pc' := 45) (st' := [dz_I s9.1]) rfl rfl ?_
        refine wp_s (i := .aload_n 0) (n := 1) (pc' := 46) (st' := [.ref 0, dz_I s9.1]) rfl rfl ?_
        obtain ⟨k10, H⟩ := dz_ck H
        refine wq_gd (idx := 31) (pc' := 49) rfl rfl ho_O rfl rfl ?_
        refine wq_gr (idx := 223) (a := (s9.2 0 3 0).toNat + 4) (pc' := 52) rfl rfl (ho_S k10) rfl rfl ?_
        refine wp_s (i := .iload_n 1) (n := 1) (pc' := 53) (st' := [dz_I a1, .ref ((s9.2 0 3 0).toNat + 4), dz_I s9.1]) rfl rfl ?_
        obtain ⟨k11, H⟩ := dz_ck H
        refine wq_ia (j' := dz_c a1) (pc' := 54) rfl (ha_S_3 k10) rfl k11.1 k11.2 rfl ?_
        refine wq_ic (p := dz_c (s9.2 ((s9.2 0 3 0).toNat) 3 (dz_c a1)) ≤ dz_c s9.1) (tt := 88) (pc' := 57) rfl rfl (cq_ge rfl rfl) rfl (fun c12 => ?_) (fun c12 => ?_)
        · replace H := dz_it c12 H
          refine wp_s (i := .aload_n 3) (n := 1) (pc' := 89) (st' := [.ref 55]) rfl rfl ?_
          refine wp_s (i := .aload_n 0) (n := 1) (pc' := 90) (st' := [.ref 0, .ref 55]) rfl rfl ?_
          obtain ⟨k13, H⟩ := dz_ck H
          refine wq_gd (idx := 24) (pc' := 93) rfl rfl ho_O rfl rfl ?_
          refine wp_s (i := .iload_n 2) (n := 1) (pc' := 94) (st' := [dz_I a2, .ref ((s9.2 0 2 0).toNat), .ref 55]) rfl rfl ?_
          refine wq_cv (Dq := (D + 3)) (r' := mm_r23) (as0 := [.ref ((s9.2 0 2 0).toNat), dz_I a2]) (rest := []) (ls' := [some (.ref 55), some (.ref ((s9.2 0 2 0).toNat)), some (dz_I a2)]) (pc' := 97) rfl rfl rfl rfl (ho_F (Or.inr (Or.inl rfl))) rfl rfl rfl ?_
          refine jw_F_isBroken (X := X) (D := D + 3) 55 (Or.inr (Or.inl rfl)) ((s9.2 0 2 0).toNat) k13 a2 s9.2 (dz_pm (dz_bi H) (fun q14 H => ?_))
          show mm_Wp X (D + 4) mm_r94 97 [some (.ref 0), some (dz_I a1), some (dz_I a2), some (.ref 55), some (dz_I s6.1), some (dz_I s9.1)] [dz_B q14] (hz_0 s9.2) Q
          refine wq_if (p := q14 = false) (tt := 103) (pc' := 100) rfl rfl (cb_eq) rfl (fun c15 => ?_) (fun c15 => ?_)
          · replace H := dz_it c15 H
            refine wq_inc (k := 4) (d := 1) (x := s6.1) (ls' := [some (.ref 0), some (dz_I a1), some (dz_I a2), some (.ref 55), some (dz_I (s6.1 + 1)), some (dz_I s9.1)]) (pc' := 106) rfl rfl rfl rfl ?_
            refine wp_s (i := .goto (-73)) (n := 3) (pc' := 33) (st' := []) rfl rfl ?_
            replace H := dz_out H
            replace H := dz_back H
            exact H (some (Int32.ofInt s9.1))
          · replace H := dz_if c15 H
            refine wp_s (i := .iload 4) (n := 2) (pc' := 102) (st' := [dz_I s6.1]) rfl rfl ?_
            refine wq_ri rfl rfl ?_
            replace H := dz_out H
            replace H := dz_out H
            replace H := dz_sm H
            exact H
        · replace H := dz_if c12 H
          refine wp_s (i := .aload_n 3) (n := 1) (pc' := 58) (st' := [.ref 55]) rfl rfl ?_
          refine wp_s (i := .aload_n 0) (n := 1) (pc' := 59) (st' := [.ref 0, .ref 55]) rfl rfl ?_
          obtain ⟨k16, H⟩ := dz_ck H
          refine wq_gd (idx := 24) (pc' := 62) rfl rfl ho_O rfl rfl ?_
          refine wp_s (i := .aload_n 0) (n := 1) (pc' := 63) (st' := [.ref 0, .ref ((s9.2 0 2 0).toNat), .ref 55]) rfl rfl ?_
          refine wq_gd (idx := 31) (pc' := 66) rfl rfl ho_O rfl rfl ?_
          refine wp_s (i := .aload_n 0) (n := 1) (pc' := 67) (st' := [.ref 0, .ref ((s9.2 0 3 0).toNat), .ref ((s9.2 0 2 0).toNat), .ref 55]) rfl rfl ?_
          refine wq_gd (idx := 31) (pc' := 70) rfl rfl ho_O rfl rfl ?_
          refine wq_gr (idx := 226) (a := (s9.2 0 3 0).toNat + 5) (pc' := 73) rfl rfl (ho_S k10) rfl rfl ?_
          refine wp_s (i := .iload_n 1) (n := 1) (pc' := 74) (st' := [dz_I a1, .ref ((s9.2 0 3 0).toNat + 5), .ref ((s9.2 0 3 0).toNat), .ref ((s9.2 0 2 0).toNat), .ref 55]) rfl rfl ?_
          refine wq_aa (j' := dz_c a1) (a := (s9.2 0 3 0).toNat + 6 + Int.toNat (dz_c a1)) (pc' := 75) rfl (by decide) (ha_S_4 k10) rfl k11.1 k11.2 (hr_S k11.1 k11.2) rfl ?_
          refine wp_s (i := .iload 5) (n := 2) (pc' := 77) (st' := [dz_I s9.1, .ref ((s9.2 0 3 0).toNat + 6 + Int.toNat (dz_c a1)), .ref ((s9.2 0 3 0).toNat), .ref ((s9.2 0 2 0).toNat), .ref 55]) rfl rfl ?_
          obtain ⟨k17, H⟩ := dz_ck H
          refine wq_ia (j' := dz_c s9.1) (pc' := 78) rfl (ha_Sr k10 k11.1 k11.2) rfl k17.1 k17.2 rfl ?_
          refine wq_cv (Dq := (D + 3)) (r' := mm_r12) (as0 := [.ref ((s9.2 0 2 0).toNat), .ref ((s9.2 0 3 0).toNat), dz_I (s9.2 ((s9.2 0 3 0).toNat) (20 + Int.toNat (dz_c a1)) (dz_c s9.1))]) (rest := []) (ls' := [some (.ref 55), some (.ref ((s9.2 0 2 0).toNat)), some (.ref ((s9.2 0 3 0).toNat)), some (dz_I (s9.2 ((s9.2 0 3 0).toNat) (20 + Int.toNat (dz_c a1)) (dz_c s9.1))), none]) (pc' := 81) rfl rfl rfl rfl (ho_F (Or.inr (Or.inl rfl))) rfl rfl rfl ?_
          refine jw_F_passSecond (X := X) (D := D + 0) 55 (Or.inr (Or.inl rfl)) ((s9.2 0 2 0).toNat) k16 ((s9.2 0 3 0).toNat) k10 (s9.2 ((s9.2 0 3 0).toNat) (20 + Int.toNat (dz_c a1)) (dz_c s9.1)) s9.2 (dz_pm (dz_bi H) (fun q18 H => ?_))
          show mm_Wp X (D + 4) mm_r94 81 [some (.ref 0), some (dz_I a1), some (dz_I a2), some (.ref 55), some (dz_I s6.1), some (dz_I s9.1)] [dz_I q18.1] (hz_0 q18.2) Q
          refine wp_s (i := .pop) (n := 1) (pc' := 82) (st' := []) rfl rfl ?_
          refine wq_inc (k := 5) (d := 1) (x := s9.1) (ls' := [some (.ref 0), some (dz_I a1), some (dz_I a2), some (.ref 55), some (dz_I s6.1), some (dz_I (s9.1 + 1))]) (pc' := 85) rfl rfl rfl rfl ?_
          refine wp_s (i := .goto (-42)) (n := 3) (pc' := 43) (st' := []) rfl rfl ?_
          replace H := dz_back H
          exact H
    · replace H := dz_if c4 H
      refine wp_s (i := .iconst (-1)) (n := 1) (pc' := 17) (st' := [dz_I (-1)]) rfl rfl ?_
      refine wq_ri rfl rfl ?_
      replace H := dz_sm H
      exact H
-- 95
def jf_O_draws (a1 : Int) (a2 : Int) (a3 : Int) (a4 : Int) (Z : dz_Z) : Option (Int × dz_Z) := Option.bind (jf_O_isShower a1 Z) fun q1 => if q1 = false then (some ((-1), Z)) else (if dz_c a2 < 1 then (some ((-1), Z)) else (if 12 < dz_c a2 then (some ((-1), Z)) else (if dz_c a3 < 1 then (some ((-1), Z)) else (if dz_c a3 ≤ 10 then (dz_lp (fun (s7 : Int × Int × Int × dz_Z) => if dz_c a2 ≤ dz_c s7.2.2.1 then (if hz_isS (s7.2.2.2 0 3 0).toNat then if 0 ≤ dz_c a1 ∧ dz_c a1 < 3 then dz_a (dz_u s7.2.2.2 ((s7.2.2.2 0 3 0).toNat) 3 (dz_c a1) a2) fun Z12 => some (Sum.inr (s7.2.1, Z12)) else none else none) else (if dz_c a3 ≠ 0 then dz_a (Int.tmod (dz_c (dz_an (dz_ur ((s7.1 * 1103515245) + 12345) 16) 32767)) (dz_c a3)) fun x14 => if hz_isS (s7.2.2.2 0 3 0).toNat then if 0 ≤ dz_c a1 ∧ dz_c a1 < 3 then if 0 ≤ dz_c s7.2.2.1 ∧ dz_c s7.2.2.1 < 12 then dz_a (dz_u s7.2.2.2 ((s7.2.2.2 0 3 0).toNat) (20 + Int.toNat (dz_c a1)) (dz_c s7.2.2.1) x14) fun Z18 => some (Sum.inl ((s7.1 * 1103515245) + 12345, s7.2.1 + x14, s7.2.2.1 + 1, Z18)) else none else none else none else none)) 5000 (a4, 0, 0, Z)) else (some ((-1), Z))))))
set_option maxRecDepth 20000 in
theorem jw_O_draws {X : Option (List Int32)} {D : Nat} {Q : Option Value → mm_H → Prop} (a1 : Int) (a2 : Int) (a3 : Int) (a4 : Int) (Z : dz_Z) (H : dz_p (jf_O_draws a1 a2 a3 a4 Z) (fun q => Q (some (dz_I q.1)) (hz_0 q.2))) : mm_Wp X (D + 1) mm_r95 0 [some (.ref 0), some (dz_I a1), some (dz_I a2), some (dz_I a3), some (dz_I a4), none, none, none, none] [] (hz_0 Z) Q := by
  unfold jf_O_draws at H
  refine wp_s (i := .aload_n 0) (n := 1) (pc' := 1) (st' := [.ref 0]) rfl rfl ?_
  refine wp_s (i := .iload_n 1) (n := 1) (pc' := 2) (st' := [dz_I a1, .ref 0]) rfl rfl ?_
  refine wq_cv (Dq := D) (r' := mm_r105) (as0 := [dz_I a1]) (rest := []) (ls' := [some (.ref 0), some (dz_I a1)]) (pc' := 5) rfl rfl rfl rfl ho_O rfl rfl rfl ?_
  refine jw_O_isShower (X := X) (D := D + 0) a1 Z (dz_pm (dz_bi H) (fun q1 H => ?_))
  show mm_Wp X (D + 1) mm_r95 5 [some (.ref 0), some (dz_I a1), some (dz_I a2), some (dz_I a3), some (dz_I a4), none, none, none, none] [dz_B q1] (hz_0 Z) Q
  refine wq_if (p := q1 = false) (tt := 30) (pc' := 8) rfl rfl (cb_eq) rfl (fun c2 => ?_) (fun c2 => ?_)
  · replace H := dz_it c2 H
    refine wp_s (i := .iconst (-1)) (n := 1) (pc' := 31) (st' := [dz_I (-1)]) rfl rfl ?_
    refine wq_ri rfl rfl ?_
    replace H := dz_sm H
    exact H
  · replace H := dz_if c2 H
    refine wp_s (i := .iload_n 2) (n := 1) (pc' := 9) (st' := [dz_I a2]) rfl rfl ?_
    refine wp_s (i := .iconst 1) (n := 1) (pc' := 10) (st' := [dz_I 1, dz_I a2]) rfl rfl ?_
    refine wq_ic (p := dz_c a2 < 1) (tt := 30) (pc' := 13) rfl rfl (cq_lt rfl dk_1) rfl (fun c3 => ?_) (fun c3 => ?_)
    · replace H := dz_it c3 H
      refine wp_s (i := .iconst (-1)) (n := 1) (pc' := 31) (st' := [dz_I (-1)]) rfl rfl ?_
      refine wq_ri rfl rfl ?_
      replace H := dz_sm H
      exact H
    · replace H := dz_if c3 H
      refine wp_s (i := .iload_n 2) (n := 1) (pc' := 14) (st' := [dz_I a2]) rfl rfl ?_
      refine wp_s (i := .bipush 12) (n := 2) (pc' := 16) (st' := [dz_I 12, dz_I a2]) rfl rfl ?_
      refine wq_ic (p := 12 < dz_c a2) (tt := 30) (pc' := 19) rfl rfl (cq_gt rfl dk_12) rfl (fun c4 => ?_) (fun c4 => ?_)
      · replace H := dz_it c4 H
        refine wp_s (i := .iconst (-1)) (n := 1) (pc' := 31) (st' := [dz_I (-1)]) rfl rfl ?_
        refine wq_ri rfl rfl ?_
        replace H := dz_sm H
        exact H
      · replace H := dz_if c4 H
        refine wp_s (i := .iload_n 3) (n := 1) (pc' := 20) (st' := [dz_I a3]) rfl rfl ?_
        refine wp_s (i := .iconst 1) (n := 1) (pc' := 21) (st' := [dz_I 1, dz_I a3]) rfl rfl ?_
        refine wq_ic (p := dz_c a3 < 1) (tt := 30) (pc' := 24) rfl rfl (cq_lt rfl dk_1) rfl (fun c5 => ?_) (fun c5 => ?_)
        · replace H := dz_it c5 H
          refine wp_s (i := .iconst (-1)) (n := 1) (pc' := 31) (st' := [dz_I (-1)]) rfl rfl ?_
          refine wq_ri rfl rfl ?_
          replace H := dz_sm H
          exact H
        · replace H := dz_if c5 H
          refine wp_s (i := .iload_n 3) (n := 1) (pc' := 25) (st' := [dz_I a3]) rfl rfl ?_
          refine wp_s (i := .bipush 10) (n := 2) (pc' := 27) (st' := [dz_I 10, dz_I a3]) rfl rfl ?_
          refine wq_ic (p := dz_c a3 ≤ 10) (tt := 32) (pc' := 30) rfl rfl (cq_le rfl dk_10) rfl (fun c6 => ?_) (fun c6 => ?_)
          · replace H := dz_it c6 H
            refine wp_s (i := .iload 4) (n := 2) (pc' := 34) (st' := [dz_I a4]) rfl rfl ?_
            refine wq_st (k := 5) (i := .istore 5) (n := 2) (ls' := [some (.ref 0), some (dz_I a1), some (dz_I a2), some (dz_I a3), some (dz_I a4), some (dz_I a4), none, none, none]) (pc' := 36) rfl rfl rfl rfl rfl ?_
            refine wp_s (i := .iconst 0) (n := 1) (pc' := 37) (st' := [dz_I 0]) rfl rfl ?_
            refine wq_st (k := 6) (i := .istore 6) (n := 2) (ls' := [some (.ref 0), some (dz_I a1), some (dz_I a2), some (dz_I a3), some (dz_I a4), some (dz_I a4), some (dz_I 0), none, none]) (pc' := 39) rfl rfl rfl rfl rfl ?_
            refine wp_s (i := .iconst 0) (n := 1) (pc' := 40) (st' := [dz_I 0]) rfl rfl ?_
            refine wq_st (k := 7) (i := .istore 7) (n := 2) (ls' := [some (.ref 0), some (dz_I a1), some (dz_I a2), some (dz_I a3), some (dz_I a4), some (dz_I a4), some (dz_I 0), some (dz_I 0), none]) (pc' := 42) rfl rfl rfl rfl rfl ?_
            refine dz_lpi (P := fun (s7 : Int × Int × Int × dz_Z) => ∀ (u8 : Option Int32), mm_Wp X (D + 1) mm_r95 42 [some (.ref 0), some (dz_I a1), some (dz_I a2), some (dz_I a3), some (dz_I a4), some (dz_I s7.1), some (dz_I s7.2.1), some (dz_I s7.2.2.1), Option.map Value.int u8] [] (hz_0 s7.2.2.2) Q) (fun s7 H => ?_) 5000 (a4, 0, 0, Z) H none
            intro u8
            refine wp_s (i := .iload 7) (n := 2) (pc' := 44) (st' := [dz_I s7.2.2.1]) rfl rfl ?_
            refine wp_s (i := .iload_n 2) (n := 1) (pc' := 45) (st' := [dz_I a2, dz_I s7.2.2.1]) rfl rfl ?_
            refine wq_ic (p := dz_c a2 ≤ dz_c s7.2.2.1) (tt := 100) (pc' := 48) rfl rfl (cq_ge rfl rfl) rfl (fun c9 => ?_) (fun c9 => ?_)
            · replace H := dz_it c9 H
              refine wp_s (i := .aload_n 0) (n := 1) (pc' := 101) (st' := [.ref 0]) rfl rfl ?_
              obtain ⟨k10, H⟩ := dz_ck H
              refine wq_gd (idx := 31) (pc' := 104) rfl rfl ho_O rfl rfl ?_
              refine wq_gr (idx := 223) (a := (s7.2.2.2 0 3 0).toNat + 4) (pc' := 107) rfl rfl (ho_S k10) rfl rfl ?_
              refine wp_s (i := .iload_n 1) (n := 1) (pc' := 108) (st' := [dz_I a1, .ref ((s7.2.2.2 0 3 0).toNat + 4)]) rfl rfl ?_
              refine wp_s (i := .iload_n 2) (n := 1) (pc' := 109) (st' := [dz_I a2, dz_I a1, .ref ((s7.2.2.2 0 3 0).toNat + 4)]) rfl rfl ?_
              obtain ⟨k11, H⟩ := dz_ck H
              refine wq_is (j' := dz_c a1) (x := a2) (pc' := 110) rfl (ha_S_3 k10) rfl k11.1 k11.2 rfl (fun Z12 eZ12 => ?_)
              replace H := dz_le H Z12 eZ12
              clear eZ12
              refine wp_s (i := .iload 6) (n := 2) (pc' := 112) (st' := [dz_I s7.2.1]) rfl rfl ?_
              refine wq_ri rfl rfl ?_
              replace H := dz_out H
              replace H := dz_sm H
              exact H
            · replace H := dz_if c9 H
              refine wp_s (i := .iload 5) (n := 2) (pc' := 50) (st' := [dz_I s7.1]) rfl rfl ?_
              refine wp_s (i := .ldc_w 288) (n := 3) (pc' := 53) (st' := [dz_I 1103515245, dz_I s7.1]) rfl rfl ?_
              refine wq_2 (i := .imul) (z := s7.1 * 1103515245) (pc' := 54) rfl rfl (op_mul _ _) rfl ?_
              refine wp_s (i := .sipush 12345) (n := 3) (pc' := 57) (st' := [dz_I 12345, dz_I (s7.1 * 1103515245)]) rfl rfl ?_
              refine wq_2 (i := .iadd) (z := (s7.1 * 1103515245) + 12345) (pc' := 58) rfl rfl (op_add _ _) rfl ?_
              refine wq_st (k := 5) (i := .istore 5) (n := 2) (ls' := [some (.ref 0), some (dz_I a1), some (dz_I a2), some (dz_I a3), some (dz_I a4), some (dz_I ((s7.1 * 1103515245) + 12345)), some (dz_I s7.2.1), some (dz_I s7.2.2.1), Option.map Value.int u8]) (pc' := 60) rfl rfl rfl rfl rfl ?_
              refine wp_s (i := .iload 5) (n := 2) (pc' := 62) (st' := [dz_I ((s7.1 * 1103515245) + 12345)]) rfl rfl ?_
              refine wp_s (i := .bipush 16) (n := 2) (pc' := 64) (st' := [dz_I 16, dz_I ((s7.1 * 1103515245) + 12345)]) rfl rfl ?_
              refine wq_2 (i := .iushr) (z := dz_ur ((s7.1 * 1103515245) + 12345) 16) (pc' := 65) rfl rfl (op_ushr _ _) rfl ?_
              refine wp_s (i := .sipush 32767) (n := 3) (pc' := 68) (st' := [dz_I 32767, dz_I (dz_ur ((s7.1 * 1103515245) + 12345) 16)]) rfl rfl ?_
              refine wq_2 (i := .iand) (z := dz_an (dz_ur ((s7.1 * 1103515245) + 12345) 16) 32767) (pc' := 69) rfl rfl (op_and _ _) rfl ?_
              refine wp_s (i := .iload_n 3) (n := 1) (pc' := 70) (st' := [dz_I a3, dz_I (dz_an (dz_ur ((s7.1 * 1103515245) + 12345) 16) 32767)]) rfl rfl ?_
              obtain ⟨k13, H⟩ := dz_ck H
              refine wq_2 (i := .irem) (z := Int.tmod (dz_c (dz_an (dz_ur ((s7.1 * 1103515245) + 12345) 16) 32767)) (dz_c a3)) (pc' := 71) rfl rfl (op_rem rfl rfl k13) rfl ?_
              refine wq_sa (k := 8) (F := fun x14 => [some (.ref 0), some (dz_I a1), some (dz_I a2), some (dz_I a3), some (dz_I a4), some (dz_I ((s7.1 * 1103515245) + 12345)), some (dz_I s7.2.1), some (dz_I s7.2.2.1), some (dz_I x14)]) (i := .istore 8) (n := 2) (pc' := 73) rfl rfl (fun _ => rfl) (fun _ => rfl) rfl (fun x14 ex14 => ?_)
              show mm_Wp _ _ _ 73 [some (.ref 0), some (dz_I a1), some (dz_I a2), some (dz_I a3), some (dz_I a4), some (dz_I ((s7.1 * 1103515245) + 12345)), some (dz_I s7.2.1), some (dz_I s7.2.2.1), some (dz_I x14)] [] _ _
              replace H := dz_le H x14 ex14
              clear ex14
              refine wp_s (i := .aload_n 0) (n := 1) (pc' := 74) (st' := [.ref 0]) rfl rfl ?_
              obtain ⟨k15, H⟩ := dz_ck H
              refine wq_gd (idx := 31) (pc' := 77) rfl rfl ho_O rfl rfl ?_
              refine wq_gr (idx := 226) (a := (s7.2.2.2 0 3 0).toNat + 5) (pc' := 80) rfl rfl (ho_S k15) rfl rfl ?_
              refine wp_s (i := .iload_n 1) (n := 1) (pc' := 81) (st' := [dz_I a1, .ref ((s7.2.2.2 0 3 0).toNat + 5)]) rfl rfl ?_
              obtain ⟨k16, H⟩ := dz_ck H
              refine wq_aa (j' := dz_c a1) (a := (s7.2.2.2 0 3 0).toNat + 6 + Int.toNat (dz_c a1)) (pc' := 82) rfl (by decide) (ha_S_4 k15) rfl k16.1 k16.2 (hr_S k16.1 k16.2) rfl ?_
              refine wp_s (i := .iload 7) (n := 2) (pc' := 84) (st' := [dz_I s7.2.2.1, .ref ((s7.2.2.2 0 3 0).toNat + 6 + Int.toNat (dz_c a1))]) rfl rfl ?_
              refine wp_s (i := .iload 8) (n := 2) (pc' := 86) (st' := [dz_I x14, dz_I s7.2.2.1, .ref ((s7.2.2.2 0 3 0).toNat + 6 + Int.toNat (dz_c a1))]) rfl rfl ?_
              obtain ⟨k17, H⟩ := dz_ck H
              refine wq_is (j' := dz_c s7.2.2.1) (x := x14) (pc' := 87) rfl (ha_Sr k15 k16.1 k16.2) rfl k17.1 k17.2 rfl (fun Z18 eZ18 => ?_)
              replace H := dz_le H Z18 eZ18
              clear eZ18
              refine wp_s (i := .iload 6) (n := 2) (pc' := 89) (st' := [dz_I s7.2.1]) rfl rfl ?_
              refine wp_s (i := .iload 8) (n := 2) (pc' := 91) (st' := [dz_I x14, dz_I s7.2.1]) rfl rfl ?_
              refine wq_2 (i := .iadd) (z := s7.2.1 + x14) (pc' := 92) rfl rfl (op_add _ _) rfl ?_
              refine wq_st (k := 6) (i := .istore 6) (n := 2) (ls' := [some (.ref 0), some (dz_I a1), some (dz_I a2), some (dz_I a3), some (dz_I a4), some (dz_I ((s7.1 * 1103515245) + 12345)), some (dz_I (s7.2.1 + x14)), some (dz_I s7.2.2.1), some (dz_I x14)]) (pc' := 94) rfl rfl rfl rfl rfl ?_
              refine wq_inc (k := 7) (d := 1) (x := s7.2.2.1) (ls' := [some (.ref 0), some (dz_I a1), some (dz_I a2), some (dz_I a3), some (dz_I a4), some (dz_I ((s7.1 * 1103515245) + 12345)), some (dz_I (s7.2.1 + x14)), some (dz_I (s7.2.2.1 + 1)), some (dz_I x14)]) (pc' := 97) rfl rfl rfl rfl ?_
              refine wp_s (i := .goto (-55)) (n := 3) (pc' := 42) (st' := []) rfl rfl ?_
              replace H := dz_back H
              exact H (some (Int32.ofInt x14))
          · replace H := dz_if c6 H
            refine wp_s (i := .iconst (-1)) (n := 1) (pc' := 31) (st' := [dz_I (-1)]) rfl rfl ?_
            refine wq_ri rfl rfl ?_
            replace H := dz_sm H
            exact H
-- 106
def jf_O_isImage (a1 : Int) : Option (Bool) := if dz_c a1 < 0 then (some false) else (if 2 ≤ dz_c a1 then (some false) else (some true))
set_option maxRecDepth 20000 in
theorem jw_O_isImage {X : Option (List Int32)} {D : Nat} {Q : Option Value → mm_H → Prop} (a1 : Int) (Z : dz_Z) (H : dz_p (jf_O_isImage a1) (fun q => Q (some (dz_B q)) (hz_0 Z))) : mm_Wp X D mm_r106 0 [some (dz_I a1)] [] (hz_0 Z) Q := by
  unfold jf_O_isImage at H
  refine wp_s (i := .iload_n 0) (n := 1) (pc' := 1) (st' := [dz_I a1]) rfl rfl ?_
  refine wq_if (p := dz_c a1 < 0) (tt := 13) (pc' := 4) rfl rfl (cz_lt rfl) rfl (fun c1 => ?_) (fun c1 => ?_)
  · replace H := dz_it c1 H
    refine wp_s (i := .iconst 0) (n := 1) (pc' := 14) (st' := [dz_I 0]) rfl rfl ?_
    refine wq_rf rfl rfl ?_
    replace H := dz_sm H
    exact H
  · replace H := dz_if c1 H
    refine wp_s (i := .iload_n 0) (n := 1) (pc' := 5) (st' := [dz_I a1]) rfl rfl ?_
    refine wp_s (i := .iconst 2) (n := 1) (pc' := 6) (st' := [dz_I 2, dz_I a1]) rfl rfl ?_
    refine wq_ic (p := 2 ≤ dz_c a1) (tt := 13) (pc' := 9) rfl rfl (cq_ge rfl dk_2) rfl (fun c2 => ?_) (fun c2 => ?_)
    · replace H := dz_it c2 H
      refine wp_s (i := .iconst 0) (n := 1) (pc' := 14) (st' := [dz_I 0]) rfl rfl ?_
      refine wq_rf rfl rfl ?_
      replace H := dz_sm H
      exact H
    · replace H := dz_if c2 H
      refine wp_s (i := .iconst 1) (n := 1) (pc' := 10) (st' := [dz_I 1]) rfl rfl ?_
      refine wp_s (i := .goto 4) (n := 3) (pc' := 14) (st' := [dz_I 1]) rfl rfl ?_
      refine wq_rt rfl rfl ?_
      replace H := dz_sm H
      exact H
-- 96
def jf_O_keep (a1 : Int) (Z : dz_Z) : Option (Int × dz_Z) := Option.bind (jf_O_isImage a1) fun q1 => if q1 = true then (if 0 ≤ dz_c a1 ∧ dz_c a1 < 2 then Option.bind (α := Int) (if dz_c (Z (68 + 19 * Int.toNat (dz_c a1)) 2 0) = 0 then (some 0) else (some 1)) (fun (q5 : Int) => dz_a (dz_u Z (68 + 19 * Int.toNat (dz_c a1)) 2 0 1) fun Z6 => if hz_isS (Z6 0 3 0).toNat then Option.bind (jf_S_copyFrom (68 + 19 * Int.toNat (dz_c a1) + 1) ((Z6 0 3 0).toNat) Z6) fun q8 => Option.bind (jf_F_copyFrom (68 + 19 * Int.toNat (dz_c a1) + 11) 46 q8) fun q9 => some (q5, q9) else none) else none) else (some ((-1), Z))
set_option maxRecDepth 20000 in
theorem jw_O_keep {X : Option (List Int32)} {D : Nat} {Q : Option Value → mm_H → Prop} (a1 : Int) (Z : dz_Z) (H : dz_p (jf_O_keep a1 Z) (fun q => Q (some (dz_I q.1)) (hz_0 q.2))) : mm_Wp X (D + 2) mm_r96 0 [some (.ref 0), some (dz_I a1), none, none] [] (hz_0 Z) Q := by
  unfold jf_O_keep at H
  refine wp_s (i := .iload_n 1) (n := 1) (pc' := 1) (st' := [dz_I a1]) rfl rfl ?_
  refine wq_cs (Dq := (D + 1)) (r' := mm_r106) (as0 := [dz_I a1]) (rest := []) (ls' := [some (dz_I a1)]) (pc' := 4) rfl rfl (by decide) rfl rfl rfl rfl rfl ?_
  refine jw_O_isImage (X := X) (D := D + 1) a1 Z (dz_pm (dz_bi H) (fun q1 H => ?_))
  show mm_Wp X (D + 2) mm_r96 4 [some (.ref 0), some (dz_I a1), none, none] [dz_B q1] (hz_0 Z) Q
  refine wq_if (p := q1 = true) (tt := 9) (pc' := 7) rfl rfl (cb_ne) rfl (fun c2 => ?_) (fun c2 => ?_)
  · replace H := dz_it c2 H
    refine wp_s (i := .aload_n 0) (n := 1) (pc' := 10) (st' := [.ref 0]) rfl rfl ?_
    refine wq_gr (idx := 58) (a := 66) (pc' := 13) rfl rfl ho_O rfl rfl ?_
    refine wp_s (i := .iload_n 1) (n := 1) (pc' := 14) (st' := [dz_I a1, .ref 66]) rfl rfl ?_
    obtain ⟨k3, H⟩ := dz_ck H
    refine wq_aa (j' := dz_c a1) (a := 68 + 19 * Int.toNat (dz_c a1)) (pc' := 15) rfl (by decide) ha_O_7 rfl k3.1 k3.2 (hr_I k3.1 k3.2) rfl ?_
    refine wp_s (i := .astore_n 2) (n := 1) (pc' := 16) (ls' := [some (.ref 0), some (dz_I a1), some (.ref (68 + 19 * Int.toNat (dz_c a1))), none]) (st' := []) rfl rfl ?_
    refine wp_s (i := .aload_n 2) (n := 1) (pc' := 17) (st' := [.ref (68 + 19 * Int.toNat (dz_c a1))]) rfl rfl ?_
    refine wq_gi (idx := 104) (pc' := 20) rfl rfl (ho_I (hi_I k3.1 k3.2)) rfl rfl ?_
    refine dz_jn (P := fun (q5 : Int) => mm_Wp X (D + 2) mm_r96 28 [some (.ref 0), some (dz_I a1), some (.ref (68 + 19 * Int.toNat (dz_c a1))), none] [dz_I q5] (hz_0 Z) Q) (dz_bi H) (fun q5 H => ?_) (fun H => ?_)
    · skip
      refine wq_st (k := 3) (i := .istore_n 3) (n := 1) (ls' := [some (.ref 0), some (dz_I a1), some (.ref (68 + 19 * Int.toNat (dz_c a1))), some (dz_I q5)]) (pc' := 29) rfl rfl rfl rfl rfl ?_
      refine wp_s (i := .aload_n 2) (n := 1) (pc' := 30) (st' := [.ref (68 + 19 * Int.toNat (dz_c a1))]) rfl rfl ?_
      refine wp_s (i := .iconst 1) (n := 1) (pc' := 31) (st' := [dz_I 1, .ref (68 + 19 * Int.toNat (dz_c a1))]) rfl rfl ?_
      refine wq_pi (idx := 104) (x := 1) (pc' := 34) rfl rfl rfl (ho_I (hi_I k3.1 k3.2)) rfl rfl rfl rfl (fun Z6 eZ6 => ?_)
      replace H := dz_le H Z6 eZ6
      clear eZ6
      refine wp_s (i := .aload_n 2) (n := 1) (pc' := 35) (st' := [.ref (68 + 19 * Int.toNat (dz_c a1))]) rfl rfl ?_
      refine wq_gr (idx := 292) (a := 68 + 19 * Int.toNat (dz_c a1) + 1) (pc' := 38) rfl rfl (ho_I (hi_I k3.1 k3.2)) rfl rfl ?_
      refine wp_s (i := .aload_n 0) (n := 1) (pc' := 39) (st' := [.ref 0, .ref (68 + 19 * Int.toNat (dz_c a1) + 1)]) rfl rfl ?_
      obtain ⟨k7, H⟩ := dz_ck H
      refine wq_gd (idx := 31) (pc' := 42) rfl rfl ho_O rfl rfl ?_
      refine wq_cv (Dq := (D + 1)) (r' := mm_r54) (as0 := [.ref ((Z6 0 3 0).toNat)]) (rest := []) (ls' := [some (.ref (68 + 19 * Int.toNat (dz_c a1) + 1)), some (.ref ((Z6 0 3 0).toNat)), none]) (pc' := 45) rfl rfl rfl rfl (ho_S (hi_IS (hi_I k3.1 k3.2))) rfl rfl rfl ?_
      refine jw_S_copyFrom (X := X) (D := D + 0) (68 + 19 * Int.toNat (dz_c a1) + 1) (hi_IS (hi_I k3.1 k3.2)) ((Z6 0 3 0).toNat) k7 Z6 (dz_pm (dz_bi H) (fun q8 H => ?_))
      show mm_Wp X (D + 2) mm_r96 45 [some (.ref 0), some (dz_I a1), some (.ref (68 + 19 * Int.toNat (dz_c a1))), some (dz_I q5)] [] (hz_0 q8) Q
      refine wp_s (i := .aload_n 2) (n := 1) (pc' := 46) (st' := [.ref (68 + 19 * Int.toNat (dz_c a1))]) rfl rfl ?_
      refine wq_gr (idx := 297) (a := 68 + 19 * Int.toNat (dz_c a1) + 11) (pc' := 49) rfl rfl (ho_I (hi_I k3.1 k3.2)) rfl rfl ?_
      refine wp_s (i := .aload_n 0) (n := 1) (pc' := 50) (st' := [.ref 0, .ref (68 + 19 * Int.toNat (dz_c a1) + 11)]) rfl rfl ?_
      refine wq_gr (idx := 38) (a := 46) (pc' := 53) rfl rfl ho_O rfl rfl ?_
      refine wq_cv (Dq := (D + 1)) (r' := mm_r11) (as0 := [.ref 46]) (rest := []) (ls' := [some (.ref (68 + 19 * Int.toNat (dz_c a1) + 11)), some (.ref 46)]) (pc' := 56) rfl rfl rfl rfl (ho_F (hi_IF (hi_I k3.1 k3.2))) rfl rfl rfl ?_
      refine jw_F_copyFrom (X := X) (D := D + 0) (68 + 19 * Int.toNat (dz_c a1) + 11) (hi_IF (hi_I k3.1 k3.2)) 46 (Or.inl rfl) q8 (dz_pm (dz_bi H) (fun q9 H => ?_))
      show mm_Wp X (D + 2) mm_r96 56 [some (.ref 0), some (dz_I a1), some (.ref (68 + 19 * Int.toNat (dz_c a1))), some (dz_I q5)] [] (hz_0 q9) Q
      refine wp_s (i := .iload_n 3) (n := 1) (pc' := 57) (st' := [dz_I q5]) rfl rfl ?_
      refine wq_ri rfl rfl ?_
      replace H := dz_sm H
      exact H
    · skip
      refine wq_if (p := dz_c (Z (68 + 19 * Int.toNat (dz_c a1)) 2 0) = 0) (tt := 27) (pc' := 23) rfl rfl (cz_eq rfl) rfl (fun c10 => ?_) (fun c10 => ?_)
      · replace H := dz_it c10 H
        refine wp_s (i := .iconst 0) (n := 1) (pc' := 28) (st' := [dz_I 0]) rfl rfl ?_
        replace H := dz_sm H
        exact H
      · replace H := dz_if c10 H
        refine wp_s (i := .iconst 1) (n := 1) (pc' := 24) (st' := [dz_I 1]) rfl rfl ?_
        refine wp_s (i := .goto 4) (n := 3) (pc' := 28) (st' := [dz_I 1]) rfl rfl ?_
        replace H := dz_sm H
        exact H
  · replace H := dz_if c2 H
    refine wp_s (i := .iconst (-1)) (n := 1) (pc' := 8) (st' := [dz_I (-1)]) rfl rfl ?_
    refine wq_ri rfl rfl ?_
    replace H := dz_sm H
    exact H
-- 97
def jf_O_back (a1 : Int) (Z : dz_Z) : Option (Int × dz_Z) := Option.bind (jf_O_isImage a1) fun q1 => if q1 = true then (if 0 ≤ dz_c a1 ∧ dz_c a1 < 2 then if dz_c (Z (68 + 19 * Int.toNat (dz_c a1)) 2 0) ≠ 0 then (if hz_isS (Z 0 3 0).toNat then Option.bind (jf_S_copyFrom ((Z 0 3 0).toNat) (68 + 19 * Int.toNat (dz_c a1) + 1) Z) fun q6 => Option.bind (jf_F_copyFrom 46 (68 + 19 * Int.toNat (dz_c a1) + 11) q6) fun q7 => some (q7 46 5 0, q7) else none) else (some ((-2), Z)) else none) else (some ((-1), Z))
set_option maxRecDepth 20000 in
theorem jw_O_back {X : Option (List Int32)} {D : Nat} {Q : Option Value → mm_H → Prop} (a1 : Int) (Z : dz_Z) (H : dz_p (jf_O_back a1 Z) (fun q => Q (some (dz_I q.1)) (hz_0 q.2))) : mm_Wp X (D + 2) mm_r97 0 [some (.ref 0), some (dz_I a1), none] [] (hz_0 Z) Q := by
  unfold jf_O_back at H
  refine wp_s (i := .iload_n 1) (n := 1) (pc' := 1) (st' := [dz_I a1]) rfl rfl ?_
  refine wq_cs (Dq := (D + 1)) (r' := mm_r106) (as0 := [dz_I a1]) (rest := []) (ls' := [some (dz_I a1)]) (pc' := 4) rfl rfl (by decide) rfl rfl rfl rfl rfl ?_
  refine jw_O_isImage (X := X) (D := D + 1) a1 Z (dz_pm (dz_bi H) (fun q1 H => ?_))
  show mm_Wp X (D + 2) mm_r97 4 [some (.ref 0), some (dz_I a1), none] [dz_B q1] (hz_0 Z) Q
  refine wq_if (p := q1 = true) (tt := 9) (pc' := 7) rfl rfl (cb_ne) rfl (fun c2 => ?_) (fun c2 => ?_)
  · replace H := dz_it c2 H
    refine wp_s (i := .aload_n 0) (n := 1) (pc' := 10) (st' := [.ref 0]) rfl rfl ?_
    refine wq_gr (idx := 58) (a := 66) (pc' := 13) rfl rfl ho_O rfl rfl ?_
    refine wp_s (i := .iload_n 1) (n := 1) (pc' := 14) (st' := [dz_I a1, .ref 66]) rfl rfl ?_
    obtain ⟨k3, H⟩ := dz_ck H
    refine wq_aa (j' := dz_c a1) (a := 68 + 19 * Int.toNat (dz_c a1)) (pc' := 15) rfl (by decide) ha_O_7 rfl k3.1 k3.2 (hr_I k3.1 k3.2) rfl ?_
    refine wp_s (i := .astore_n 2) (n := 1) (pc' := 16) (ls' := [some (.ref 0), some (dz_I a1), some (.ref (68 + 19 * Int.toNat (dz_c a1)))]) (st' := []) rfl rfl ?_
    refine wp_s (i := .aload_n 2) (n := 1) (pc' := 17) (st' := [.ref (68 + 19 * Int.toNat (dz_c a1))]) rfl rfl ?_
    refine wq_gi (idx := 104) (pc' := 20) rfl rfl (ho_I (hi_I k3.1 k3.2)) rfl rfl ?_
    refine wq_if (p := dz_c (Z (68 + 19 * Int.toNat (dz_c a1)) 2 0) ≠ 0) (tt := 26) (pc' := 23) rfl rfl (cz_ne rfl) rfl (fun c4 => ?_) (fun c4 => ?_)
    · replace H := dz_it c4 H
      refine wp_s (i := .aload_n 0) (n := 1) (pc' := 27) (st' := [.ref 0]) rfl rfl ?_
      obtain ⟨k5, H⟩ := dz_ck H
      refine wq_gd (idx := 31) (pc' := 30) rfl rfl ho_O rfl rfl ?_
      refine wp_s (i := .aload_n 2) (n := 1) (pc' := 31) (st' := [.ref (68 + 19 * Int.toNat (dz_c a1)), .ref ((Z 0 3 0).toNat)]) rfl rfl ?_
      refine wq_gr (idx := 292) (a := 68 + 19 * Int.toNat (dz_c a1) + 1) (pc' := 34) rfl rfl (ho_I (hi_I k3.1 k3.2)) rfl rfl ?_
      refine wq_cv (Dq := (D + 1)) (r' := mm_r54) (as0 := [.ref (68 + 19 * Int.toNat (dz_c a1) + 1)]) (rest := []) (ls' := [some (.ref ((Z 0 3 0).toNat)), some (.ref (68 + 19 * Int.toNat (dz_c a1) + 1)), none]) (pc' := 37) rfl rfl rfl rfl (ho_S k5) rfl rfl rfl ?_
      refine jw_S_copyFrom (X := X) (D := D + 0) ((Z 0 3 0).toNat) k5 (68 + 19 * Int.toNat (dz_c a1) + 1) (hi_IS (hi_I k3.1 k3.2)) Z (dz_pm (dz_bi H) (fun q6 H => ?_))
      show mm_Wp X (D + 2) mm_r97 37 [some (.ref 0), some (dz_I a1), some (.ref (68 + 19 * Int.toNat (dz_c a1)))] [] (hz_0 q6) Q
      refine wp_s (i := .aload_n 0) (n := 1) (pc' := 38) (st' := [.ref 0]) rfl rfl ?_
      refine wq_gr (idx := 38) (a := 46) (pc' := 41) rfl rfl ho_O rfl rfl ?_
      refine wp_s (i := .aload_n 2) (n := 1) (pc' := 42) (st' := [.ref (68 + 19 * Int.toNat (dz_c a1)), .ref 46]) rfl rfl ?_
      refine wq_gr (idx := 297) (a := 68 + 19 * Int.toNat (dz_c a1) + 11) (pc' := 45) rfl rfl (ho_I (hi_I k3.1 k3.2)) rfl rfl ?_
      refine wq_cv (Dq := (D + 1)) (r' := mm_r11) (as0 := [.ref (68 + 19 * Int.toNat (dz_c a1) + 11)]) (rest := []) (ls' := [some (.ref 46), some (.ref (68 + 19 * Int.toNat (dz_c a1) + 11))]) (pc' := 48) rfl rfl rfl rfl (ho_F (Or.inl rfl)) rfl rfl rfl ?_
      refine jw_F_copyFrom (X := X) (D := D + 0) 46 (Or.inl rfl) (68 + 19 * Int.toNat (dz_c a1) + 11) (hi_IF (hi_I k3.1 k3.2)) q6 (dz_pm (dz_bi H) (fun q7 H => ?_))
      show mm_Wp X (D + 2) mm_r97 48 [some (.ref 0), some (dz_I a1), some (.ref (68 + 19 * Int.toNat (dz_c a1)))] [] (hz_0 q7) Q
      refine wp_s (i := .aload_n 0) (n := 1) (pc' := 49) (st' := [.ref 0]) rfl rfl ?_
      refine wq_gr (idx := 38) (a := 46) (pc' := 52) rfl rfl ho_O rfl rfl ?_
      refine wq_gi (idx := 201) (pc' := 55) rfl rfl (ho_F (Or.inl rfl)) rfl rfl ?_
      refine wq_ri rfl rfl ?_
      replace H := dz_sm H
      exact H
    · replace H := dz_if c4 H
      refine wp_s (i := .bipush (-2)) (n := 2) (pc' := 25) (st' := [dz_I (-2)]) rfl rfl ?_
      refine wq_ri rfl rfl ?_
      replace H := dz_sm H
      exact H
  · replace H := dz_if c2 H
    refine wp_s (i := .iconst (-1)) (n := 1) (pc' := 8) (st' := [dz_I (-1)]) rfl rfl ?_
    refine wq_ri rfl rfl ?_
    replace H := dz_sm H
    exact H
-- 107
def jf_O_isSheet (a1 : Int) : Option (Bool) := if dz_c a1 < 0 then (some false) else (if 4 ≤ dz_c a1 then (some false) else (some true))
set_option maxRecDepth 20000 in
theorem jw_O_isSheet {X : Option (List Int32)} {D : Nat} {Q : Option Value → mm_H → Prop} (a1 : Int) (Z : dz_Z) (H : dz_p (jf_O_isSheet a1) (fun q => Q (some (dz_B q)) (hz_0 Z))) : mm_Wp X D mm_r107 0 [some (dz_I a1)] [] (hz_0 Z) Q := by
  unfold jf_O_isSheet at H
  refine wp_s (i := .iload_n 0) (n := 1) (pc' := 1) (st' := [dz_I a1]) rfl rfl ?_
  refine wq_if (p := dz_c a1 < 0) (tt := 13) (pc' := 4) rfl rfl (cz_lt rfl) rfl (fun c1 => ?_) (fun c1 => ?_)
  · replace H := dz_it c1 H
    refine wp_s (i := .iconst 0) (n := 1) (pc' := 14) (st' := [dz_I 0]) rfl rfl ?_
    refine wq_rf rfl rfl ?_
    replace H := dz_sm H
    exact H
  · replace H := dz_if c1 H
    refine wp_s (i := .iload_n 0) (n := 1) (pc' := 5) (st' := [dz_I a1]) rfl rfl ?_
    refine wp_s (i := .iconst 4) (n := 1) (pc' := 6) (st' := [dz_I 4, dz_I a1]) rfl rfl ?_
    refine wq_ic (p := 4 ≤ dz_c a1) (tt := 13) (pc' := 9) rfl rfl (cq_ge rfl dk_4) rfl (fun c2 => ?_) (fun c2 => ?_)
    · replace H := dz_it c2 H
      refine wp_s (i := .iconst 0) (n := 1) (pc' := 14) (st' := [dz_I 0]) rfl rfl ?_
      refine wq_rf rfl rfl ?_
      replace H := dz_sm H
      exact H
    · replace H := dz_if c2 H
      refine wp_s (i := .iconst 1) (n := 1) (pc' := 10) (st' := [dz_I 1]) rfl rfl ?_
      refine wp_s (i := .goto 4) (n := 3) (pc' := 14) (st' := [dz_I 1]) rfl rfl ?_
      refine wq_rt rfl rfl ?_
      replace H := dz_sm H
      exact H
-- 108
def jf_O_isLane (a1 : Int) : Option (Bool) := if dz_c a1 < 0 then (some false) else (if 3 ≤ dz_c a1 then (some false) else (some true))
set_option maxRecDepth 20000 in
theorem jw_O_isLane {X : Option (List Int32)} {D : Nat} {Q : Option Value → mm_H → Prop} (a1 : Int) (Z : dz_Z) (H : dz_p (jf_O_isLane a1) (fun q => Q (some (dz_B q)) (hz_0 Z))) : mm_Wp X D mm_r108 0 [some (dz_I a1)] [] (hz_0 Z) Q := by
  unfold jf_O_isLane at H
  refine wp_s (i := .iload_n 0) (n := 1) (pc' := 1) (st' := [dz_I a1]) rfl rfl ?_
  refine wq_if (p := dz_c a1 < 0) (tt := 13) (pc' := 4) rfl rfl (cz_lt rfl) rfl (fun c1 => ?_) (fun c1 => ?_)
  · replace H := dz_it c1 H
    refine wp_s (i := .iconst 0) (n := 1) (pc' := 14) (st' := [dz_I 0]) rfl rfl ?_
    refine wq_rf rfl rfl ?_
    replace H := dz_sm H
    exact H
  · replace H := dz_if c1 H
    refine wp_s (i := .iload_n 0) (n := 1) (pc' := 5) (st' := [dz_I a1]) rfl rfl ?_
    refine wp_s (i := .iconst 3) (n := 1) (pc' := 6) (st' := [dz_I 3, dz_I a1]) rfl rfl ?_
    refine wq_ic (p := 3 ≤ dz_c a1) (tt := 13) (pc' := 9) rfl rfl (cq_ge rfl dk_3) rfl (fun c2 => ?_) (fun c2 => ?_)
    · replace H := dz_it c2 H
      refine wp_s (i := .iconst 0) (n := 1) (pc' := 14) (st' := [dz_I 0]) rfl rfl ?_
      refine wq_rf rfl rfl ?_
      replace H := dz_sm H
      exact H
    · replace H := dz_if c2 H
      refine wp_s (i := .iconst 1) (n := 1) (pc' := 10) (st' := [dz_I 1]) rfl rfl ?_
      refine wp_s (i := .goto 4) (n := 3) (pc' := 14) (st' := [dz_I 1]) rfl rfl ?_
      refine wq_rt rfl rfl ?_
      replace H := dz_sm H
      exact H
-- 98
def jf_O_sheet (a1 : Int) (a2 : Int) (a3 : Int) (Z : dz_Z) : Option (Int × dz_Z) := Option.bind (jf_O_isSheet a1) fun q1 => if q1 = false then (some ((-1), Z)) else (Option.bind (jf_O_isLane a2) fun q3 => if q3 = false then (some ((-1), Z)) else (if dz_c a3 ≤ 40 then (if 0 ≤ dz_c a3 then (if 0 ≤ dz_c a1 ∧ dz_c a1 < 4 then Option.bind (jf_H_renew (106 + 2 * Int.toNat (dz_c a1)) a2 a3 Z) fun q8 => some (1, q8) else none) else (some ((-14), Z))) else (some ((-1), Z))))
set_option maxRecDepth 20000 in
theorem jw_O_sheet {X : Option (List Int32)} {D : Nat} {Q : Option Value → mm_H → Prop} (a1 : Int) (a2 : Int) (a3 : Int) (Z : dz_Z) (H : dz_p (jf_O_sheet a1 a2 a3 Z) (fun q => Q (some (dz_I q.1)) (hz_0 q.2))) : mm_Wp X (D + 2) mm_r98 0 [some (.ref 0), some (dz_I a1), some (dz_I a2), some (dz_I a3)] [] (hz_0 Z) Q := by
  unfold jf_O_sheet at H
  refine wp_s (i := .iload_n 1) (n := 1) (pc' := 1) (st' := [dz_I a1]) rfl rfl ?_
  refine wq_cs (Dq := (D + 1)) (r' := mm_r107) (as0 := [dz_I a1]) (rest := []) (ls' := [some (dz_I a1)]) (pc' := 4) rfl rfl (by decide) rfl rfl rfl rfl rfl ?_
  refine jw_O_isSheet (X := X) (D := D + 1) a1 Z (dz_pm (dz_bi H) (fun q1 H => ?_))
  show mm_Wp X (D + 2) mm_r98 4 [some (.ref 0), some (dz_I a1), some (dz_I a2), some (dz_I a3)] [dz_B q1] (hz_0 Z) Q
  refine wq_if (p := q1 = false) (tt := 20) (pc' := 7) rfl rfl (cb_eq) rfl (fun c2 => ?_) (fun c2 => ?_)
  · replace H := dz_it c2 H
    refine wp_s (i := .iconst (-1)) (n := 1) (pc' := 21) (st' := [dz_I (-1)]) rfl rfl ?_
    refine wq_ri rfl rfl ?_
    replace H := dz_sm H
    exact H
  · replace H := dz_if c2 H
    refine wp_s (i := .iload_n 2) (n := 1) (pc' := 8) (st' := [dz_I a2]) rfl rfl ?_
    refine wq_cs (Dq := (D + 1)) (r' := mm_r108) (as0 := [dz_I a2]) (rest := []) (ls' := [some (dz_I a2)]) (pc' := 11) rfl rfl (by decide) rfl rfl rfl rfl rfl ?_
    refine jw_O_isLane (X := X) (D := D + 1) a2 Z (dz_pm (dz_bi H) (fun q3 H => ?_))
    show mm_Wp X (D + 2) mm_r98 11 [some (.ref 0), some (dz_I a1), some (dz_I a2), some (dz_I a3)] [dz_B q3] (hz_0 Z) Q
    refine wq_if (p := q3 = false) (tt := 20) (pc' := 14) rfl rfl (cb_eq) rfl (fun c4 => ?_) (fun c4 => ?_)
    · replace H := dz_it c4 H
      refine wp_s (i := .iconst (-1)) (n := 1) (pc' := 21) (st' := [dz_I (-1)]) rfl rfl ?_
      refine wq_ri rfl rfl ?_
      replace H := dz_sm H
      exact H
    · replace H := dz_if c4 H
      refine wp_s (i := .iload_n 3) (n := 1) (pc' := 15) (st' := [dz_I a3]) rfl rfl ?_
      refine wp_s (i := .bipush 40) (n := 2) (pc' := 17) (st' := [dz_I 40, dz_I a3]) rfl rfl ?_
      refine wq_ic (p := dz_c a3 ≤ 40) (tt := 22) (pc' := 20) rfl rfl (cq_le rfl dk_40) rfl (fun c5 => ?_) (fun c5 => ?_)
      · replace H := dz_it c5 H
        refine wp_s (i := .iload_n 3) (n := 1) (pc' := 23) (st' := [dz_I a3]) rfl rfl ?_
        refine wq_if (p := 0 ≤ dz_c a3) (tt := 29) (pc' := 26) rfl rfl (cz_ge rfl) rfl (fun c6 => ?_) (fun c6 => ?_)
        · replace H := dz_it c6 H
          refine wp_s (i := .aload_n 0) (n := 1) (pc' := 30) (st' := [.ref 0]) rfl rfl ?_
          refine wq_gr (idx := 64) (a := 67) (pc' := 33) rfl rfl ho_O rfl rfl ?_
          refine wp_s (i := .iload_n 1) (n := 1) (pc' := 34) (st' := [dz_I a1, .ref 67]) rfl rfl ?_
          obtain ⟨k7, H⟩ := dz_ck H
          refine wq_aa (j' := dz_c a1) (a := 106 + 2 * Int.toNat (dz_c a1)) (pc' := 35) rfl (by decide) ha_O_8 rfl k7.1 k7.2 (hr_H k7.1 k7.2) rfl ?_
          refine wp_s (i := .iload_n 2) (n := 1) (pc' := 36) (st' := [dz_I a2, .ref (106 + 2 * Int.toNat (dz_c a1))]) rfl rfl ?_
          refine wp_s (i := .iload_n 3) (n := 1) (pc' := 37) (st' := [dz_I a3, dz_I a2, .ref (106 + 2 * Int.toNat (dz_c a1))]) rfl rfl ?_
          refine wq_cv (Dq := (D + 1)) (r' := mm_r59) (as0 := [dz_I a2, dz_I a3]) (rest := []) (ls' := [some (.ref (106 + 2 * Int.toNat (dz_c a1))), some (dz_I a2), some (dz_I a3)]) (pc' := 40) rfl rfl rfl rfl (ho_H (hi_H k7.1 k7.2)) rfl rfl rfl ?_
          refine jw_H_renew (X := X) (D := D + 0) (106 + 2 * Int.toNat (dz_c a1)) (hi_H k7.1 k7.2) a2 a3 Z (dz_pm (dz_bi H) (fun q8 H => ?_))
          show mm_Wp X (D + 2) mm_r98 40 [some (.ref 0), some (dz_I a1), some (dz_I a2), some (dz_I a3)] [] (hz_0 q8) Q
          refine wp_s (i := .iconst 1) (n := 1) (pc' := 41) (st' := [dz_I 1]) rfl rfl ?_
          refine wq_ri rfl rfl ?_
          replace H := dz_sm H
          exact H
        · replace H := dz_if c6 H
          refine wp_s (i := .bipush (-14)) (n := 2) (pc' := 28) (st' := [dz_I (-14)]) rfl rfl ?_
          refine wq_ri rfl rfl ?_
          replace H := dz_sm H
          exact H
      · replace H := dz_if c5 H
        refine wp_s (i := .iconst (-1)) (n := 1) (pc' := 21) (st' := [dz_I (-1)]) rfl rfl ?_
        refine wq_ri rfl rfl ?_
        replace H := dz_sm H
        exact H
-- 99
def jf_O_lay (a1 : Int) (a2 : Int) (a3 : Int) (Z : dz_Z) : Option (Int × dz_Z) := Option.bind (jf_O_isSheet a1) fun q1 => if q1 = true then (if 0 ≤ dz_c a1 ∧ dz_c a1 < 4 then Option.bind (jf_H_faultAt (106 + 2 * Int.toNat (dz_c a1)) (Z (106 + 2 * Int.toNat (dz_c a1)) 1 0) a2 Z) fun q4 => if dz_c q4 = 0 then (Option.bind (jf_H_put (106 + 2 * Int.toNat (dz_c a1)) a2 a3 Z) fun q6 => some (1, q6)) else (some ((-10) - q4, Z)) else none) else (some ((-1), Z))
set_option maxRecDepth 20000 in
theorem jw_O_lay {X : Option (List Int32)} {D : Nat} {Q : Option Value → mm_H → Prop} (a1 : Int) (a2 : Int) (a3 : Int) (Z : dz_Z) (H : dz_p (jf_O_lay a1 a2 a3 Z) (fun q => Q (some (dz_I q.1)) (hz_0 q.2))) : mm_Wp X (D + 2) mm_r99 0 [some (.ref 0), some (dz_I a1), some (dz_I a2), some (dz_I a3), none, none] [] (hz_0 Z) Q := by
  unfold jf_O_lay at H
  refine wp_s (i := .iload_n 1) (n := 1) (pc' := 1) (st' := [dz_I a1]) rfl rfl ?_
  refine wq_cs (Dq := (D + 1)) (r' := mm_r107) (as0 := [dz_I a1]) (rest := []) (ls' := [some (dz_I a1)]) (pc' := 4) rfl rfl (by decide) rfl rfl rfl rfl rfl ?_
  refine jw_O_isSheet (X := X) (D := D + 1) a1 Z (dz_pm (dz_bi H) (fun q1 H => ?_))
  show mm_Wp X (D + 2) mm_r99 4 [some (.ref 0), some (dz_I a1), some (dz_I a2), some (dz_I a3), none, none] [dz_B q1] (hz_0 Z) Q
  refine wq_if (p := q1 = true) (tt := 9) (pc' := 7) rfl rfl (cb_ne) rfl (fun c2 => ?_) (fun c2 => ?_)
  · replace H := dz_it c2 H
    refine wp_s (i := .aload_n 0) (n := 1) (pc' := 10) (st' := [.ref 0]) rfl rfl ?_
    refine wq_gr (idx := 64) (a := 67) (pc' := 13) rfl rfl ho_O rfl rfl ?_
    refine wp_s (i := .iload_n 1) (n := 1) (pc' := 14) (st' := [dz_I a1, .ref 67]) rfl rfl ?_
    obtain ⟨k3, H⟩ := dz_ck H
    refine wq_aa (j' := dz_c a1) (a := 106 + 2 * Int.toNat (dz_c a1)) (pc' := 15) rfl (by decide) ha_O_8 rfl k3.1 k3.2 (hr_H k3.1 k3.2) rfl ?_
    refine wp_s (i := .astore 4) (n := 2) (pc' := 17) (ls' := [some (.ref 0), some (dz_I a1), some (dz_I a2), some (dz_I a3), some (.ref (106 + 2 * Int.toNat (dz_c a1))), none]) (st' := []) rfl rfl ?_
    refine wp_s (i := .aload 4) (n := 2) (pc' := 19) (st' := [.ref (106 + 2 * Int.toNat (dz_c a1))]) rfl rfl ?_
    refine wp_s (i := .aload 4) (n := 2) (pc' := 21) (st' := [.ref (106 + 2 * Int.toNat (dz_c a1)), .ref (106 + 2 * Int.toNat (dz_c a1))]) rfl rfl ?_
    refine wq_gi (idx := 310) (pc' := 24) rfl rfl (ho_H (hi_H k3.1 k3.2)) rfl rfl ?_
    refine wp_s (i := .iload_n 2) (n := 1) (pc' := 25) (st' := [dz_I a2, dz_I (Z (106 + 2 * Int.toNat (dz_c a1)) 1 0), .ref (106 + 2 * Int.toNat (dz_c a1))]) rfl rfl ?_
    refine wq_cv (Dq := (D + 1)) (r' := mm_r60) (as0 := [dz_I (Z (106 + 2 * Int.toNat (dz_c a1)) 1 0), dz_I a2]) (rest := []) (ls' := [some (.ref (106 + 2 * Int.toNat (dz_c a1))), some (dz_I (Z (106 + 2 * Int.toNat (dz_c a1)) 1 0)), some (dz_I a2)]) (pc' := 28) rfl rfl rfl rfl (ho_H (hi_H k3.1 k3.2)) rfl rfl rfl ?_
    refine jw_H_faultAt (X := X) (D := D + 0) (106 + 2 * Int.toNat (dz_c a1)) (hi_H k3.1 k3.2) (Z (106 + 2 * Int.toNat (dz_c a1)) 1 0) a2 Z (dz_pm (dz_bi H) (fun q4 H => ?_))
    show mm_Wp X (D + 2) mm_r99 28 [some (.ref 0), some (dz_I a1), some (dz_I a2), some (dz_I a3), some (.ref (106 + 2 * Int.toNat (dz_c a1))), none] [dz_I q4] (hz_0 Z) Q
    refine wq_st (k := 5) (i := .istore 5) (n := 2) (ls' := [some (.ref 0), some (dz_I a1), some (dz_I a2), some (dz_I a3), some (.ref (106 + 2 * Int.toNat (dz_c a1))), some (dz_I q4)]) (pc' := 30) rfl rfl rfl rfl rfl ?_
    refine wp_s (i := .iload 5) (n := 2) (pc' := 32) (st' := [dz_I q4]) rfl rfl ?_
    refine wq_if (p := dz_c q4 = 0) (tt := 41) (pc' := 35) rfl rfl (cz_eq rfl) rfl (fun c5 => ?_) (fun c5 => ?_)
    · replace H := dz_it c5 H
      refine wp_s (i := .aload 4) (n := 2) (pc' := 43) (st' := [.ref (106 + 2 * Int.toNat (dz_c a1))]) rfl rfl ?_
      refine wp_s (i := .iload_n 2) (n := 1) (pc' := 44) (st' := [dz_I a2, .ref (106 + 2 * Int.toNat (dz_c a1))]) rfl rfl ?_
      refine wp_s (i := .iload_n 3) (n := 1) (pc' := 45) (st' := [dz_I a3, dz_I a2, .ref (106 + 2 * Int.toNat (dz_c a1))]) rfl rfl ?_
      refine wq_cv (Dq := (D + 1)) (r' := mm_r61) (as0 := [dz_I a2, dz_I a3]) (rest := []) (ls' := [some (.ref (106 + 2 * Int.toNat (dz_c a1))), some (dz_I a2), some (dz_I a3)]) (pc' := 48) rfl rfl rfl rfl (ho_H (hi_H k3.1 k3.2)) rfl rfl rfl ?_
      refine jw_H_put (X := X) (D := D + 1) (106 + 2 * Int.toNat (dz_c a1)) (hi_H k3.1 k3.2) a2 a3 Z (dz_pm (dz_bi H) (fun q6 H => ?_))
      show mm_Wp X (D + 2) mm_r99 48 [some (.ref 0), some (dz_I a1), some (dz_I a2), some (dz_I a3), some (.ref (106 + 2 * Int.toNat (dz_c a1))), some (dz_I q4)] [] (hz_0 q6) Q
      refine wp_s (i := .iconst 1) (n := 1) (pc' := 49) (st' := [dz_I 1]) rfl rfl ?_
      refine wq_ri rfl rfl ?_
      replace H := dz_sm H
      exact H
    · replace H := dz_if c5 H
      refine wp_s (i := .bipush (-10)) (n := 2) (pc' := 37) (st' := [dz_I (-10)]) rfl rfl ?_
      refine wp_s (i := .iload 5) (n := 2) (pc' := 39) (st' := [dz_I q4, dz_I (-10)]) rfl rfl ?_
      refine wq_2 (i := .isub) (z := (-10) - q4) (pc' := 40) rfl rfl (op_sub _ _) rfl ?_
      refine wq_ri rfl rfl ?_
      replace H := dz_sm H
      exact H
  · replace H := dz_if c2 H
    refine wp_s (i := .iconst (-1)) (n := 1) (pc' := 8) (st' := [dz_I (-1)]) rfl rfl ?_
    refine wq_ri rfl rfl ?_
    replace H := dz_sm H
    exact H
-- 100
def jf_O_read (a1 : Int) (a2 : Int) (a3 : Int) (a4 : Int) (Z : dz_Z) : Option (Int × dz_Z) := Option.bind (jf_O_isSheet a1) fun q1 => if q1 = false then (some ((-1), Z)) else (Option.bind (jf_O_isLane a2) fun q3 => if q3 = false then (some ((-1), Z)) else (if dz_c a4 < 0 then (some ((-1), Z)) else (if dz_c a4 ≤ 12 then (if 0 ≤ dz_c a1 ∧ dz_c a1 < 4 then dz_lp (fun (s8 : Int × Int) => if dz_c a4 ≤ dz_c s8.1 then (dz_lp (fun (s10 : Int × dz_Z) => if dz_c s8.1 ≤ dz_c s10.1 then (dz_a (dz_u s10.2 0 10 0 s8.2) fun Z12 => some (Sum.inr (Sum.inr (s8.1, Z12)))) else (if hz_isP (s10.2 0 2 0).toNat then if hz_isS (s10.2 0 3 0).toNat then if 0 ≤ dz_c (a3 + s10.1) ∧ dz_c (a3 + s10.1) < 40 then Option.bind (jf_F_passSecond 46 ((s10.2 0 2 0).toNat) ((s10.2 0 3 0).toNat) (s10.2 (106 + 2 * Int.toNat (dz_c a1)) 0 (dz_c (a3 + s10.1))) s10.2) fun q16 => some (Sum.inl (s10.1 + 1, q16.2)) else none else none else none)) 5000 (0, Z)) else (if dz_c s8.2 ≠ 0 then (dz_lp (fun (s18 : Int × dz_Z) => if dz_c s8.1 ≤ dz_c s18.1 then (dz_a (dz_u s18.2 0 10 0 s8.2) fun Z20 => some (Sum.inr (Sum.inr (s8.1, Z20)))) else (if hz_isP (s18.2 0 2 0).toNat then if hz_isS (s18.2 0 3 0).toNat then if 0 ≤ dz_c (a3 + s18.1) ∧ dz_c (a3 + s18.1) < 40 then Option.bind (jf_F_passSecond 46 ((s18.2 0 2 0).toNat) ((s18.2 0 3 0).toNat) (s18.2 (106 + 2 * Int.toNat (dz_c a1)) 0 (dz_c (a3 + s18.1))) s18.2) fun q24 => some (Sum.inl (s18.1 + 1, q24.2)) else none else none else none)) 5000 (0, Z)) else (Option.bind (jf_H_faultAt (106 + 2 * Int.toNat (dz_c a1)) a2 (a3 + s8.1) Z) fun q25 => if dz_c q25 ≠ 0 then (some (Sum.inl (s8.1, q25))) else (if 0 ≤ dz_c (a3 + s8.1) ∧ dz_c (a3 + s8.1) < 40 then Option.bind (jf_O_isRain (Z (106 + 2 * Int.toNat (dz_c a1)) 0 (dz_c (a3 + s8.1)))) fun q28 => if q28 = true then (some (Sum.inl (s8.1 + 1, q25))) else (some (Sum.inr ((-20) - s8.1, Z))) else none)))) 5000 (0, 0) else none) else (some ((-1), Z)))))
set_option maxRecDepth 20000 in
theorem jw_O_read {X : Option (List Int32)} {D : Nat} {Q : Option Value → mm_H → Prop} (a1 : Int) (a2 : Int) (a3 : Int) (a4 : Int) (Z : dz_Z) (H : dz_p (jf_O_read a1 a2 a3 a4 Z) (fun q => Q (some (dz_I q.1)) (hz_0 q.2))) : mm_Wp X (D + 4) mm_r100 0 [some (.ref 0), some (dz_I a1), some (dz_I a2), some (dz_I a3), some (dz_I a4), none, none, none, none] [] (hz_0 Z) Q := by
  unfold jf_O_read at H
  refine wp_s (i := .iload_n 1) (n := 1) (pc' := 1) (st' := [dz_I a1]) rfl rfl ?_
  refine wq_cs (Dq := (D + 3)) (r' := mm_r107) (as0 := [dz_I a1]) (rest := []) (ls' := [some (dz_I a1)]) (pc' := 4) rfl rfl (by decide) rfl rfl rfl rfl rfl ?_
  refine jw_O_isSheet (X := X) (D := D + 3) a1 Z (dz_pm (dz_bi H) (fun q1 H => ?_))
  show mm_Wp X (D + 4) mm_r100 4 [some (.ref 0), some (dz_I a1), some (dz_I a2), some (dz_I a3), some (dz_I a4), none, none, none, none] [dz_B q1] (hz_0 Z) Q
  refine wq_if (p := q1 = false) (tt := 26) (pc' := 7) rfl rfl (cb_eq) rfl (fun c2 => ?_) (fun c2 => ?_)
  · replace H := dz_it c2 H
    refine wp_s (i := .iconst (-1)) (n := 1) (pc' := 27) (st' := [dz_I (-1)]) rfl rfl ?_
    refine wq_ri rfl rfl ?_
    replace H := dz_sm H
    exact H
  · replace H := dz_if c2 H
    refine wp_s (i := .iload_n 2) (n := 1) (pc' := 8) (st' := [dz_I a2]) rfl rfl ?_
    refine wq_cs (Dq := (D + 3)) (r' := mm_r108) (as0 := [dz_I a2]) (rest := []) (ls' := [some (dz_I a2)]) (pc' := 11) rfl rfl (by decide) rfl rfl rfl rfl rfl ?_
    refine jw_O_isLane (X := X) (D := D + 3) a2 Z (dz_pm (dz_bi H) (fun q3 H => ?_))
    show mm_Wp X (D + 4) mm_r100 11 [some (.ref 0), some (dz_I a1), some (dz_I a2), some (dz_I a3), some (dz_I a4), none, none, none, none] [dz_B q3] (hz_0 Z) Q
    refine wq_if (p := q3 = false) (tt := 26) (pc' := 14) rfl rfl (cb_eq) rfl (fun c4 => ?_) (fun c4 => ?_)
    · replace H := dz_it c4 H
      refine wp_s (i := .iconst (-1)) (n := 1) (pc' := 27) (st' := [dz_I (-1)]) rfl rfl ?_
      refine wq_ri rfl rfl ?_
      replace H := dz_sm H
      exact H
    · replace H := dz_if c4 H
      refine wp_s (i := .iload 4) (n := 2) (pc' := 16) (st' := [dz_I a4]) rfl rfl ?_
      refine wq_if (p := dz_c a4 < 0) (tt := 26) (pc' := 19) rfl rfl (cz_lt rfl) rfl (fun c5 => ?_) (fun c5 => ?_)
      · replace H := dz_it c5 H
        refine wp_s (i := .iconst (-1)) (n := 1) (pc' := 27) (st' := [dz_I (-1)]) rfl rfl ?_
        refine wq_ri rfl rfl ?_
        replace H := dz_sm H
        exact H
      · replace H := dz_if c5 H
        refine wp_s (i := .iload 4) (n := 2) (pc' := 21) (st' := [dz_I a4]) rfl rfl ?_
        refine wp_s (i := .bipush 12) (n := 2) (pc' := 23) (st' := [dz_I 12, dz_I a4]) rfl rfl ?_
        refine wq_ic (p := dz_c a4 ≤ 12) (tt := 28) (pc' := 26) rfl rfl (cq_le rfl dk_12) rfl (fun c6 => ?_) (fun c6 => ?_)
        · replace H := dz_it c6 H
          refine wp_s (i := .aload_n 0) (n := 1) (pc' := 29) (st' := [.ref 0]) rfl rfl ?_
          refine wq_gr (idx := 64) (a := 67) (pc' := 32) rfl rfl ho_O rfl rfl ?_
          refine wp_s (i := .iload_n 1) (n := 1) (pc' := 33) (st' := [dz_I a1, .ref 67]) rfl rfl ?_
          obtain ⟨k7, H⟩ := dz_ck H
          refine wq_aa (j' := dz_c a1) (a := 106 + 2 * Int.toNat (dz_c a1)) (pc' := 34) rfl (by decide) ha_O_8 rfl k7.1 k7.2 (hr_H k7.1 k7.2) rfl ?_
          refine wp_s (i := .astore 5) (n := 2) (pc' := 36) (ls' := [some (.ref 0), some (dz_I a1), some (dz_I a2), some (dz_I a3), some (dz_I a4), some (.ref (106 + 2 * Int.toNat (dz_c a1))), none, none, none]) (st' := []) rfl rfl ?_
          refine wp_s (i := .iconst 0) (n := 1) (pc' := 37) (st' := [dz_I 0]) rfl rfl ?_
          refine wq_st (k := 6) (i := .istore 6) (n := 2) (ls' := [some (.ref 0), some (dz_I a1), some (dz_I a2), some (dz_I a3), some (dz_I a4), some (.ref (106 + 2 * Int.toNat (dz_c a1))), some (dz_I 0), none, none]) (pc' := 39) rfl rfl rfl rfl rfl ?_
          refine wp_s (i := .iconst 0) (n := 1) (pc' := 40) (st' := [dz_I 0]) rfl rfl ?_
          refine wq_st (k := 7) (i := .istore 7) (n := 2) (ls' := [some (.ref 0), some (dz_I a1), some (dz_I a2), some (dz_I a3), some (dz_I a4), some (.ref (106 + 2 * Int.toNat (dz_c a1))), some (dz_I 0), some (dz_I 0), none]) (pc' := 42) rfl rfl rfl rfl rfl ?_
          refine dz_lpi (P := fun (s8 : Int × Int) => mm_Wp X (D + 4) mm_r100 42 [some (.ref 0), some (dz_I a1), some (dz_I a2), some (dz_I a3), some (dz_I a4), some (.ref (106 + 2 * Int.toNat (dz_c a1))), some (dz_I s8.1), some (dz_I s8.2), none] [] (hz_0 Z) Q) (fun s8 H => ?_) 5000 (0, 0) H
          refine wp_s (i := .iload 6) (n := 2) (pc' := 44) (st' := [dz_I s8.1]) rfl rfl ?_
          refine wp_s (i := .iload 4) (n := 2) (pc' := 46) (st' := [dz_I a4, dz_I s8.1]) rfl rfl ?_
          refine wq_ic (p := dz_c a4 ≤ dz_c s8.1) (tt := 99) (pc' := 49) rfl rfl (cq_ge rfl rfl) rfl (fun c9 => ?_) (fun c9 => ?_)
          · replace H := dz_it c9 H
            refine wp_s (i := .iconst 0) (n := 1) (pc' := 100) (st' := [dz_I 0]) rfl rfl ?_
            refine wq_st (k := 8) (i := .istore 8) (n := 2) (ls' := [some (.ref 0), some (dz_I a1), some (dz_I a2), some (dz_I a3), some (dz_I a4), some (.ref (106 + 2 * Int.toNat (dz_c a1))), some (dz_I s8.1), some (dz_I s8.2), some (dz_I 0)]) (pc' := 102) rfl rfl rfl rfl rfl ?_
            refine dz_lpi (P := fun (s10 : Int × dz_Z) => mm_Wp X (D + 4) mm_r100 102 [some (.ref 0), some (dz_I a1), some (dz_I a2), some (dz_I a3), some (dz_I a4), some (.ref (106 + 2 * Int.toNat (dz_c a1))), some (dz_I s8.1), some (dz_I s8.2), some (dz_I s10.1)] [] (hz_0 s10.2) Q) (fun s10 H => ?_) 5000 (0, Z) H
            refine wp_s (i := .iload 8) (n := 2) (pc' := 104) (st' := [dz_I s10.1]) rfl rfl ?_
            refine wp_s (i := .iload 6) (n := 2) (pc' := 106) (st' := [dz_I s8.1, dz_I s10.1]) rfl rfl ?_
            refine wq_ic (p := dz_c s8.1 ≤ dz_c s10.1) (tt := 141) (pc' := 109) rfl rfl (cq_ge rfl rfl) rfl (fun c11 => ?_) (fun c11 => ?_)
            · replace H := dz_it c11 H
              refine wp_s (i := .aload_n 0) (n := 1) (pc' := 142) (st' := [.ref 0]) rfl rfl ?_
              refine wp_s (i := .iload 7) (n := 2) (pc' := 144) (st' := [dz_I s8.2, .ref 0]) rfl rfl ?_
              refine wq_pi (idx := 323) (x := s8.2) (pc' := 147) rfl rfl rfl ho_O rfl rfl rfl rfl (fun Z12 eZ12 => ?_)
              replace H := dz_le H Z12 eZ12
              clear eZ12
              refine wp_s (i := .iload 6) (n := 2) (pc' := 149) (st' := [dz_I s8.1]) rfl rfl ?_
              refine wq_ri rfl rfl ?_
              replace H := dz_out H
              replace H := dz_out H
              replace H := dz_sm H
              exact H
            · replace H := dz_if c11 H
              refine wp_s (i := .aload_n 0) (n := 1) (pc' := 110) (st' := [.ref 0]) rfl rfl ?_
              refine wq_gr (idx := 38) (a := 46) (pc' := 113) rfl rfl ho_O rfl rfl ?_
              refine wp_s (i := .aload_n 0) (n := 1) (pc' := 114) (st' := [.ref 0, .ref 46]) rfl rfl ?_
              obtain ⟨k13, H⟩ := dz_ck H
              refine wq_gd (idx := 24) (pc' := 117) rfl rfl ho_O rfl rfl ?_
              refine wp_s (i := .aload_n 0) (n := 1) (pc' := 118) (st' := [.ref 0, .ref ((s10.2 0 2 0).toNat), .ref 46]) rfl rfl ?_
              obtain ⟨k14, H⟩ := dz_ck H
              refine wq_gd (idx := 31) (pc' := 121) rfl rfl ho_O rfl rfl ?_
              refine wp_s (i := .aload 5) (n := 2) (pc' := 123) (st' := [.ref (106 + 2 * Int.toNat (dz_c a1)), .ref ((s10.2 0 3 0).toNat), .ref ((s10.2 0 2 0).toNat), .ref 46]) rfl rfl ?_
              refine wq_gr (idx := 320) (a := 106 + 2 * Int.toNat (dz_c a1) + 1) (pc' := 126) rfl rfl (ho_H (hi_H k7.1 k7.2)) rfl rfl ?_
              refine wp_s (i := .iload_n 3) (n := 1) (pc' := 127) (st' := [dz_I a3, .ref (106 + 2 * Int.toNat (dz_c a1) + 1), .ref ((s10.2 0 3 0).toNat), .ref ((s10.2 0 2 0).toNat), .ref 46]) rfl rfl ?_
              refine wp_s (i := .iload 8) (n := 2) (pc' := 129) (st' := [dz_I s10.1, dz_I a3, .ref (106 + 2 * Int.toNat (dz_c a1) + 1), .ref ((s10.2 0 3 0).toNat), .ref ((s10.2 0 2 0).toNat), .ref 46]) rfl rfl ?_
              refine wq_2 (i := .iadd) (z := a3 + s10.1) (pc' := 130) rfl rfl (op_add _ _) rfl ?_
              obtain ⟨k15, H⟩ := dz_ck H
              refine wq_ia (j' := dz_c (a3 + s10.1)) (pc' := 131) rfl (ha_H_0 (hi_H k7.1 k7.2)) rfl k15.1 k15.2 rfl ?_
              refine wq_cv (Dq := (D + 3)) (r' := mm_r12) (as0 := [.ref ((s10.2 0 2 0).toNat), .ref ((s10.2 0 3 0).toNat), dz_I (s10.2 (106 + 2 * Int.toNat (dz_c a1)) 0 (dz_c (a3 + s10.1)))]) (rest := []) (ls' := [some (.ref 46), some (.ref ((s10.2 0 2 0).toNat)), some (.ref ((s10.2 0 3 0).toNat)), some (dz_I (s10.2 (106 + 2 * Int.toNat (dz_c a1)) 0 (dz_c (a3 + s10.1)))), none]) (pc' := 134) rfl rfl rfl rfl (ho_F (Or.inl rfl)) rfl rfl rfl ?_
              refine jw_F_passSecond (X := X) (D := D + 0) 46 (Or.inl rfl) ((s10.2 0 2 0).toNat) k13 ((s10.2 0 3 0).toNat) k14 (s10.2 (106 + 2 * Int.toNat (dz_c a1)) 0 (dz_c (a3 + s10.1))) s10.2 (dz_pm (dz_bi H) (fun q16 H => ?_))
              show mm_Wp X (D + 4) mm_r100 134 [some (.ref 0), some (dz_I a1), some (dz_I a2), some (dz_I a3), some (dz_I a4), some (.ref (106 + 2 * Int.toNat (dz_c a1))), some (dz_I s8.1), some (dz_I s8.2), some (dz_I s10.1)] [dz_I q16.1] (hz_0 q16.2) Q
              refine wp_s (i := .pop) (n := 1) (pc' := 135) (st' := []) rfl rfl ?_
              refine wq_inc (k := 8) (d := 1) (x := s10.1) (ls' := [some (.ref 0), some (dz_I a1), some (dz_I a2), some (dz_I a3), some (dz_I a4), some (.ref (106 + 2 * Int.toNat (dz_c a1))), some (dz_I s8.1), some (dz_I s8.2), some (dz_I (s10.1 + 1))]) (pc' := 138) rfl rfl rfl rfl ?_
              refine wp_s (i := .goto (-36)) (n := 3) (pc' := 102) (st' := []) rfl rfl ?_
              replace H := dz_back H
              exact H
          · replace H := dz_if c9 H
            refine wp_s (i := .iload 7) (n := 2) (pc' := 51) (st' := [dz_I s8.2]) rfl rfl ?_
            refine wq_if (p := dz_c s8.2 ≠ 0) (tt := 99) (pc' := 54) rfl rfl (cz_ne rfl) rfl (fun c17 => ?_) (fun c17 => ?_)
            · replace H := dz_it c17 H
              refine wp_s (i := .iconst 0) (n := 1) (pc' := 100) (st' := [dz_I 0]) rfl rfl ?_
              refine wq_st (k := 8) (i := .istore 8) (n := 2) (ls' := [some (.ref 0), some (dz_I a1), some (dz_I a2), some (dz_I a3), some (dz_I a4), some (.ref (106 + 2 * Int.toNat (dz_c a1))), some (dz_I s8.1), some (dz_I s8.2), some (dz_I 0)]) (pc' := 102) rfl rfl rfl rfl rfl ?_
              refine dz_lpi (P := fun (s18 : Int × dz_Z) => mm_Wp X (D + 4) mm_r100 102 [some (.ref 0), some (dz_I a1), some (dz_I a2), some (dz_I a3), some (dz_I a4), some (.ref (106 + 2 * Int.toNat (dz_c a1))), some (dz_I s8.1), some (dz_I s8.2), some (dz_I s18.1)] [] (hz_0 s18.2) Q) (fun s18 H => ?_) 5000 (0, Z) H
              refine wp_s (i := .iload 8) (n := 2) (pc' := 104) (st' := [dz_I s18.1]) rfl rfl ?_
              refine wp_s (i := .iload 6) (n := 2) (pc' := 106) (st' := [dz_I s8.1, dz_I s18.1]) rfl rfl ?_
              refine wq_ic (p := dz_c s8.1 ≤ dz_c s18.1) (tt := 141) (pc' := 109) rfl rfl (cq_ge rfl rfl) rfl (fun c19 => ?_) (fun c19 => ?_)
              · replace H := dz_it c19 H
                refine wp_s (i := .aload_n 0) (n := 1) (pc' := 142) (st' := [.ref 0]) rfl rfl ?_
                refine wp_s (i := .iload 7) (n := 2) (pc' := 144) (st' := [dz_I s8.2, .ref 0]) rfl rfl ?_
                refine wq_pi (idx := 323) (x := s8.2) (pc' := 147) rfl rfl rfl ho_O rfl rfl rfl rfl (fun Z20 eZ20 => ?_)
                replace H := dz_le H Z20 eZ20
                clear eZ20
                refine wp_s (i := .iload 6) (n := 2) (pc' := 149) (st' := [dz_I s8.1]) rfl rfl ?_
                refine wq_ri rfl rfl ?_
                replace H := dz_out H
                replace H := dz_out H
                replace H := dz_sm H
                exact H
              · replace H := dz_if c19 H
                refine wp_s (i := .aload_n 0) (n := 1) (pc' := 110) (st' := [.ref 0]) rfl rfl ?_
                refine wq_gr (idx := 38) (a := 46) (pc' := 113) rfl rfl ho_O rfl rfl ?_
                refine wp_s (i := .aload_n 0) (n := 1) (pc' := 114) (st' := [.ref 0, .ref 46]) rfl rfl ?_
                obtain ⟨k21, H⟩ := dz_ck H
                refine wq_gd (idx := 24) (pc' := 117) rfl rfl ho_O rfl rfl ?_
                refine wp_s (i := .aload_n 0) (n := 1) (pc' := 118) (st' := [.ref 0, .ref ((s18.2 0 2 0).toNat), .ref 46]) rfl rfl ?_
                obtain ⟨k22, H⟩ := dz_ck H
                refine wq_gd (idx := 31) (pc' := 121) rfl rfl ho_O rfl rfl ?_
                refine wp_s (i := .aload 5) (n := 2) (pc' := 123) (st' := [.ref (106 + 2 * Int.toNat (dz_c a1)), .ref ((s18.2 0 3 0).toNat), .ref ((s18.2 0 2 0).toNat), .ref 46]) rfl rfl ?_
                refine wq_gr (idx := 320) (a := 106 + 2 * Int.toNat (dz_c a1) + 1) (pc' := 126) rfl rfl (ho_H (hi_H k7.1 k7.2)) rfl rfl ?_
                refine wp_s (i := .iload_n 3) (n := 1) (pc' := 127) (st' := [dz_I a3, .ref (106 + 2 * Int.toNat (dz_c a1) + 1), .ref ((s18.2 0 3 0).toNat), .ref ((s18.2 0 2 0).toNat), .ref 46]) rfl rfl ?_
                refine wp_s (i := .iload 8) (n := 2) (pc' := 129) (st' := [dz_I s18.1, dz_I a3, .ref (106 + 2 * Int.toNat (dz_c a1) + 1), .ref ((s18.2 0 3 0).toNat), .ref ((s18.2 0 2 0).toNat), .ref 46]) rfl rfl ?_
                refine wq_2 (i := .iadd) (z := a3 + s18.1) (pc' := 130) rfl rfl (op_add _ _) rfl ?_
                obtain ⟨k23, H⟩ := dz_ck H
                refine wq_ia (j' := dz_c (a3 + s18.1)) (pc' := 131) rfl (ha_H_0 (hi_H k7.1 k7.2)) rfl k23.1 k23.2 rfl ?_
                refine wq_cv (Dq := (D + 3)) (r' := mm_r12) (as0 := [.ref ((s18.2 0 2 0).toNat), .ref ((s18.2 0 3 0).toNat), dz_I (s18.2 (106 + 2 * Int.toNat (dz_c a1)) 0 (dz_c (a3 + s18.1)))]) (rest := []) (ls' := [some (.ref 46), some (.ref ((s18.2 0 2 0).toNat)), some (.ref ((s18.2 0 3 0).toNat)), some (dz_I (s18.2 (106 + 2 * Int.toNat (dz_c a1)) 0 (dz_c (a3 + s18.1)))), none]) (pc' := 134) rfl rfl rfl rfl (ho_F (Or.inl rfl)) rfl rfl rfl ?_
                refine jw_F_passSecond (X := X) (D := D + 0) 46 (Or.inl rfl) ((s18.2 0 2 0).toNat) k21 ((s18.2 0 3 0).toNat) k22 (s18.2 (106 + 2 * Int.toNat (dz_c a1)) 0 (dz_c (a3 + s18.1))) s18.2 (dz_pm (dz_bi H) (fun q24 H => ?_))
                show mm_Wp X (D + 4) mm_r100 134 [some (.ref 0), some (dz_I a1), some (dz_I a2), some (dz_I a3), some (dz_I a4), some (.ref (106 + 2 * Int.toNat (dz_c a1))), some (dz_I s8.1), some (dz_I s8.2), some (dz_I s18.1)] [dz_I q24.1] (hz_0 q24.2) Q
                refine wp_s (i := .pop) (n := 1) (pc' := 135) (st' := []) rfl rfl ?_
                refine wq_inc (k := 8) (d := 1) (x := s18.1) (ls' := [some (.ref 0), some (dz_I a1), some (dz_I a2), some (dz_I a3), some (dz_I a4), some (.ref (106 + 2 * Int.toNat (dz_c a1))), some (dz_I s8.1), some (dz_I s8.2), some (dz_I (s18.1 + 1))]) (pc' := 138) rfl rfl rfl rfl ?_
                refine wp_s (i := .goto (-36)) (n := 3) (pc' := 102) (st' := []) rfl rfl ?_
                replace H := dz_back H
                exact H
            · replace H := dz_if c17 H
              refine wp_s (i := .aload 5) (n := 2) (pc' := 56) (st' := [.ref (106 + 2 * Int.toNat (dz_c a1))]) rfl rfl ?_
              refine wp_s (i := .iload_n 2) (n := 1) (pc' := 57) (st' := [dz_I a2, .ref (106 + 2 * Int.toNat (dz_c a1))]) rfl rfl ?_
              refine wp_s (i := .iload_n 3) (n := 1) (pc' := 58) (st' := [dz_I a3, dz_I a2, .ref (106 + 2 * Int.toNat (dz_c a1))]) rfl rfl ?_
              refine wp_s (i := .iload 6) (n := 2) (pc' := 60) (st' := [dz_I s8.1, dz_I a3, dz_I a2, .ref (106 + 2 * Int.toNat (dz_c a1))]) rfl rfl ?_
              refine wq_2 (i := .iadd) (z := a3 + s8.1) (pc' := 61) rfl rfl (op_add _ _) rfl ?_
              refine wq_cv (Dq := (D + 3)) (r' := mm_r60) (as0 := [dz_I a2, dz_I (a3 + s8.1)]) (rest := []) (ls' := [some (.ref (106 + 2 * Int.toNat (dz_c a1))), some (dz_I a2), some (dz_I (a3 + s8.1))]) (pc' := 64) rfl rfl rfl rfl (ho_H (hi_H k7.1 k7.2)) rfl rfl rfl ?_
              refine jw_H_faultAt (X := X) (D := D + 2) (106 + 2 * Int.toNat (dz_c a1)) (hi_H k7.1 k7.2) a2 (a3 + s8.1) Z (dz_pm (dz_bi H) (fun q25 H => ?_))
              show mm_Wp X (D + 4) mm_r100 64 [some (.ref 0), some (dz_I a1), some (dz_I a2), some (dz_I a3), some (dz_I a4), some (.ref (106 + 2 * Int.toNat (dz_c a1))), some (dz_I s8.1), some (dz_I s8.2), none] [dz_I q25] (hz_0 Z) Q
              refine wq_st (k := 7) (i := .istore 7) (n := 2) (ls' := [some (.ref 0), some (dz_I a1), some (dz_I a2), some (dz_I a3), some (dz_I a4), some (.ref (106 + 2 * Int.toNat (dz_c a1))), some (dz_I s8.1), some (dz_I q25), none]) (pc' := 66) rfl rfl rfl rfl rfl ?_
              refine wp_s (i := .iload 7) (n := 2) (pc' := 68) (st' := [dz_I q25]) rfl rfl ?_
              refine wq_if (p := dz_c q25 ≠ 0) (tt := 42) (pc' := 71) rfl rfl (cz_ne rfl) rfl (fun c26 => ?_) (fun c26 => ?_)
              · replace H := dz_it c26 H
                replace H := dz_back H
                exact H
              · replace H := dz_if c26 H
                refine wp_s (i := .aload 5) (n := 2) (pc' := 73) (st' := [.ref (106 + 2 * Int.toNat (dz_c a1))]) rfl rfl ?_
                refine wq_gr (idx := 320) (a := 106 + 2 * Int.toNat (dz_c a1) + 1) (pc' := 76) rfl rfl (ho_H (hi_H k7.1 k7.2)) rfl rfl ?_
                refine wp_s (i := .iload_n 3) (n := 1) (pc' := 77) (st' := [dz_I a3, .ref (106 + 2 * Int.toNat (dz_c a1) + 1)]) rfl rfl ?_
                refine wp_s (i := .iload 6) (n := 2) (pc' := 79) (st' := [dz_I s8.1, dz_I a3, .ref (106 + 2 * Int.toNat (dz_c a1) + 1)]) rfl rfl ?_
                refine wq_2 (i := .iadd) (z := a3 + s8.1) (pc' := 80) rfl rfl (op_add _ _) rfl ?_
                obtain ⟨k27, H⟩ := dz_ck H
                refine wq_ia (j' := dz_c (a3 + s8.1)) (pc' := 81) rfl (ha_H_0 (hi_H k7.1 k7.2)) rfl k27.1 k27.2 rfl ?_
                refine wq_cs (Dq := (D + 3)) (r' := mm_r109) (as0 := [dz_I (Z (106 + 2 * Int.toNat (dz_c a1)) 0 (dz_c (a3 + s8.1)))]) (rest := []) (ls' := [some (dz_I (Z (106 + 2 * Int.toNat (dz_c a1)) 0 (dz_c (a3 + s8.1))))]) (pc' := 84) rfl rfl (by decide) rfl rfl rfl rfl rfl ?_
                refine jw_O_isRain (X := X) (D := D + 3) (Z (106 + 2 * Int.toNat (dz_c a1)) 0 (dz_c (a3 + s8.1))) Z (dz_pm (dz_bi H) (fun q28 H => ?_))
                show mm_Wp X (D + 4) mm_r100 84 [some (.ref 0), some (dz_I a1), some (dz_I a2), some (dz_I a3), some (dz_I a4), some (.ref (106 + 2 * Int.toNat (dz_c a1))), some (dz_I s8.1), some (dz_I q25), none] [dz_B q28] (hz_0 Z) Q
                refine wq_if (p := q28 = true) (tt := 93) (pc' := 87) rfl rfl (cb_ne) rfl (fun c29 => ?_) (fun c29 => ?_)
                · replace H := dz_it c29 H
                  refine wq_inc (k := 6) (d := 1) (x := s8.1) (ls' := [some (.ref 0), some (dz_I a1), some (dz_I a2), some (dz_I a3), some (dz_I a4), some (.ref (106 + 2 * Int.toNat (dz_c a1))), some (dz_I (s8.1 + 1)), some (dz_I q25), none]) (pc' := 96) rfl rfl rfl rfl ?_
                  refine wp_s (i := .goto (-54)) (n := 3) (pc' := 42) (st' := []) rfl rfl ?_
                  replace H := dz_back H
                  exact H
                · replace H := dz_if c29 H
                  refine wp_s (i := .bipush (-20)) (n := 2) (pc' := 89) (st' := [dz_I (-20)]) rfl rfl ?_
                  refine wp_s (i := .iload 6) (n := 2) (pc' := 91) (st' := [dz_I s8.1, dz_I (-20)]) rfl rfl ?_
                  refine wq_2 (i := .isub) (z := (-20) - s8.1) (pc' := 92) rfl rfl (op_sub _ _) rfl ?_
                  refine wq_ri rfl rfl ?_
                  replace H := dz_out H
                  replace H := dz_sm H
                  exact H
        · replace H := dz_if c6 H
          refine wp_s (i := .iconst (-1)) (n := 1) (pc' := 27) (st' := [dz_I (-1)]) rfl rfl ?_
          refine wq_ri rfl rfl ?_
          replace H := dz_sm H
          exact H
-- 101
def jf_O_torn (Z : dz_Z) : Option (Int) := some (Z 0 10 0)
set_option maxRecDepth 20000 in
theorem jw_O_torn {X : Option (List Int32)} {D : Nat} {Q : Option Value → mm_H → Prop} (Z : dz_Z) (H : dz_p (jf_O_torn Z) (fun q => Q (some (dz_I q)) (hz_0 Z))) : mm_Wp X D mm_r101 0 [some (.ref 0)] [] (hz_0 Z) Q := by
  unfold jf_O_torn at H
  refine wp_s (i := .aload_n 0) (n := 1) (pc' := 1) (st' := [.ref 0]) rfl rfl ?_
  refine wq_gi (idx := 323) (pc' := 4) rfl rfl ho_O rfl rfl ?_
  refine wq_ri rfl rfl ?_
  replace H := dz_sm H
  exact H
