-- 131
def jf_M_readSeconds (a1 : Int) (a2 : Int) (Z : dz_Z) : Option (dz_Z) := dz_lp (fun (s1 : Int × dz_Z) => if dz_c (s1.2 114 24 0) ≠ 0 then (if 0 ≤ dz_c a1 ∧ dz_c a1 < 140 then dz_a (dz_u s1.2 114 11 (dz_c a1) s1.1) fun Z5 => some (Sum.inr Z5) else none) else (if dz_c s1.1 = 0 then (Option.bind (α := dz_Z) (if dz_c (s1.2 114 28 0) ≠ 2 then (some s1.2) else (if dz_c s1.1 ≠ 12 then (some s1.2) else (Option.bind (jf_M_fails 5 s1.2) fun q17 => some q17))) (fun (q10 : dz_Z) => Option.bind (jf_M_number 0 a2 q10) fun q11 => if dz_c (q11.2 114 24 0) ≠ 0 then (some (Sum.inl (s1.1, q11.2))) else (if 0 ≤ dz_c ((a1 + 1) + s1.1) ∧ dz_c ((a1 + 1) + s1.1) < 140 then dz_a (dz_u q11.2 114 11 (dz_c ((a1 + 1) + s1.1)) q11.1) fun Z14 => some (Sum.inl (s1.1 + 1, Z14)) else none))) else (if dz_c (s1.2 114 28 0) ≠ 2 then (if 0 ≤ dz_c a1 ∧ dz_c a1 < 140 then dz_a (dz_u s1.2 114 11 (dz_c a1) s1.1) fun Z20 => some (Sum.inr Z20) else none) else (Option.bind (α := dz_Z) (if dz_c (s1.2 114 28 0) ≠ 2 then (some s1.2) else (if dz_c s1.1 ≠ 12 then (some s1.2) else (Option.bind (jf_M_fails 5 s1.2) fun q31 => some q31))) (fun (q24 : dz_Z) => Option.bind (jf_M_number 0 a2 q24) fun q25 => if dz_c (q25.2 114 24 0) ≠ 0 then (some (Sum.inl (s1.1, q25.2))) else (if 0 ≤ dz_c ((a1 + 1) + s1.1) ∧ dz_c ((a1 + 1) + s1.1) < 140 then dz_a (dz_u q25.2 114 11 (dz_c ((a1 + 1) + s1.1)) q25.1) fun Z28 => some (Sum.inl (s1.1 + 1, Z28)) else none)))))) 5000 (0, Z)
set_option maxRecDepth 20000 in
theorem jw_M_readSeconds {X : Option (List Int32)} {D : Nat} {Q : Option Value → mm_H → Prop} (a1 : Int) (a2 : Int) (Z : dz_Z) (H : dz_p (jf_M_readSeconds a1 a2 Z) (fun q => Q (none) (hz_0 q))) : mm_Wp X (D + 3) mm_r131 0 [some (.ref 114), some (dz_I a1), some (dz_I a2), none, none] [] (hz_0 Z) Q := by
  unfold jf_M_readSeconds at H
  refine wp_s (i := .iconst 0) (n := 1) (pc' := 1) (st' := [dz_I 0]) rfl rfl ?_
  refine wq_st (k := 3) (i := .istore_n 3) (n := 1) (ls' := [some (.ref 114), some (dz_I a1), some (dz_I a2), some (dz_I 0), none]) (pc' := 2) rfl rfl rfl rfl rfl ?_
  refine dz_lpi (P := fun (s1 : Int × dz_Z) => ∀ (u2 : Option Int32), mm_Wp X (D + 3) mm_r131 2 [some (.ref 114), some (dz_I a1), some (dz_I a2), some (dz_I s1.1), Option.map Value.int u2] [] (hz_0 s1.2) Q) (fun s1 H => ?_) 5000 (0, Z) H none
  intro u2
  refine wp_s (i := .aload_n 0) (n := 1) (pc' := 3) (st' := [.ref 114]) rfl rfl ?_
  refine wq_gi (idx := 85) (pc' := 6) rfl rfl ho_M rfl rfl ?_
  refine wq_if (p := dz_c (s1.2 114 24 0) ≠ 0) (tt := 73) (pc' := 9) rfl rfl (cz_ne rfl) rfl (fun c3 => ?_) (fun c3 => ?_)
  · replace H := dz_it c3 H
    refine wp_s (i := .aload_n 0) (n := 1) (pc' := 74) (st' := [.ref 114]) rfl rfl ?_
    refine wq_gr (idx := 25) (a := 120) (pc' := 77) rfl rfl ho_M rfl rfl ?_
    refine wp_s (i := .iload_n 1) (n := 1) (pc' := 78) (st' := [dz_I a1, .ref 120]) rfl rfl ?_
    refine wp_s (i := .iload_n 3) (n := 1) (pc' := 79) (st' := [dz_I s1.1, dz_I a1, .ref 120]) rfl rfl ?_
    obtain ⟨k4, H⟩ := dz_ck H
    refine wq_is (j' := dz_c a1) (x := s1.1) (pc' := 80) rfl ha_M_11 rfl k4.1 k4.2 rfl (fun Z5 eZ5 => ?_)
    replace H := dz_le H Z5 eZ5
    clear eZ5
    refine wq_rv rfl rfl ?_
    replace H := dz_out H
    replace H := dz_sm H
    exact H
  · replace H := dz_if c3 H
    refine wp_s (i := .iload_n 3) (n := 1) (pc' := 10) (st' := [dz_I s1.1]) rfl rfl ?_
    refine wq_if (p := dz_c s1.1 = 0) (tt := 21) (pc' := 13) rfl rfl (cz_eq rfl) rfl (fun c6 => ?_) (fun c6 => ?_)
    · replace H := dz_it c6 H
      refine wp_s (i := .aload_n 0) (n := 1) (pc' := 22) (st' := [.ref 114]) rfl rfl ?_
      refine wq_gi (idx := 94) (pc' := 25) rfl rfl ho_M rfl rfl ?_
      refine wp_s (i := .iconst 2) (n := 1) (pc' := 26) (st' := [dz_I 2, dz_I (s1.2 114 28 0)]) rfl rfl ?_
      refine dz_jn (P := fun (q10 : dz_Z) => mm_Wp X (D + 3) mm_r131 40 [some (.ref 114), some (dz_I a1), some (dz_I a2), some (dz_I s1.1), Option.map Value.int u2] [] (hz_0 q10) Q) (dz_bi H) (fun q10 H => ?_) (fun H => ?_)
      · skip
        refine wp_s (i := .aload_n 0) (n := 1) (pc' := 41) (st' := [.ref 114]) rfl rfl ?_
        refine wp_s (i := .iconst 0) (n := 1) (pc' := 42) (st' := [dz_I 0, .ref 114]) rfl rfl ?_
        refine wp_s (i := .iload_n 2) (n := 1) (pc' := 43) (st' := [dz_I a2, dz_I 0, .ref 114]) rfl rfl ?_
        refine wq_cv (Dq := (D + 2)) (r' := mm_r128) (as0 := [dz_I 0, dz_I a2]) (rest := []) (ls' := [some (.ref 114), some (dz_I 0), some (dz_I a2), none]) (pc' := 46) rfl rfl rfl rfl ho_M rfl rfl rfl ?_
        refine jw_M_number (X := X) (D := D + 0) 0 a2 q10 (dz_pm (dz_bi H) (fun q11 H => ?_))
        show mm_Wp X (D + 3) mm_r131 46 [some (.ref 114), some (dz_I a1), some (dz_I a2), some (dz_I s1.1), Option.map Value.int u2] [dz_I q11.1] (hz_0 q11.2) Q
        refine wq_st (k := 4) (i := .istore 4) (n := 2) (ls' := [some (.ref 114), some (dz_I a1), some (dz_I a2), some (dz_I s1.1), some (dz_I q11.1)]) (pc' := 48) rfl rfl rfl rfl rfl ?_
        refine wp_s (i := .aload_n 0) (n := 1) (pc' := 49) (st' := [.ref 114]) rfl rfl ?_
        refine wq_gi (idx := 85) (pc' := 52) rfl rfl ho_M rfl rfl ?_
        refine wq_if (p := dz_c (q11.2 114 24 0) ≠ 0) (tt := 70) (pc' := 55) rfl rfl (cz_ne rfl) rfl (fun c12 => ?_) (fun c12 => ?_)
        · replace H := dz_it c12 H
          refine wp_s (i := .goto (-68)) (n := 3) (pc' := 2) (st' := []) rfl rfl ?_
          replace H := dz_back H
          exact H (some (Int32.ofInt q11.1))
        · replace H := dz_if c12 H
          refine wp_s (i := .aload_n 0) (n := 1) (pc' := 56) (st' := [.ref 114]) rfl rfl ?_
          refine wq_gr (idx := 25) (a := 120) (pc' := 59) rfl rfl ho_M rfl rfl ?_
          refine wp_s (i := .iload_n 1) (n := 1) (pc' := 60) (st' := [dz_I a1, .ref 120]) rfl rfl ?_
          refine wp_s (i := .iconst 1) (n := 1) (pc' := 61) (st' := [dz_I 1, dz_I a1, .ref 120]) rfl rfl ?_
          refine wq_2 (i := .iadd) (z := a1 + 1) (pc' := 62) rfl rfl (op_add _ _) rfl ?_
          refine wp_s (i := .iload_n 3) (n := 1) (pc' := 63) (st' := [dz_I s1.1, dz_I (a1 + 1), .ref 120]) rfl rfl ?_
          refine wq_2 (i := .iadd) (z := (a1 + 1) + s1.1) (pc' := 64) rfl rfl (op_add _ _) rfl ?_
          refine wp_s (i := .iload 4) (n := 2) (pc' := 66) (st' := [dz_I q11.1, dz_I ((a1 + 1) + s1.1), .ref 120]) rfl rfl ?_
          obtain ⟨k13, H⟩ := dz_ck H
          refine wq_is (j' := dz_c ((a1 + 1) + s1.1)) (x := q11.1) (pc' := 67) rfl ha_M_11 rfl k13.1 k13.2 rfl (fun Z14 eZ14 => ?_)
          replace H := dz_le H Z14 eZ14
          clear eZ14
          refine wq_inc (k := 3) (d := 1) (x := s1.1) (ls' := [some (.ref 114), some (dz_I a1), some (dz_I a2), some (dz_I (s1.1 + 1)), some (dz_I q11.1)]) (pc' := 70) rfl rfl rfl rfl ?_
          refine wp_s (i := .goto (-68)) (n := 3) (pc' := 2) (st' := []) rfl rfl ?_
          replace H := dz_back H
          exact H (some (Int32.ofInt q11.1))
      · skip
        refine wq_ic (p := dz_c (s1.2 114 28 0) ≠ 2) (tt := 40) (pc' := 29) rfl rfl (cq_ne rfl dk_2) rfl (fun c15 => ?_) (fun c15 => ?_)
        · replace H := dz_it c15 H
          replace H := dz_sm H
          exact H
        · replace H := dz_if c15 H
          refine wp_s (i := .iload_n 3) (n := 1) (pc' := 30) (st' := [dz_I s1.1]) rfl rfl ?_
          refine wp_s (i := .bipush 12) (n := 2) (pc' := 32) (st' := [dz_I 12, dz_I s1.1]) rfl rfl ?_
          refine wq_ic (p := dz_c s1.1 ≠ 12) (tt := 40) (pc' := 35) rfl rfl (cq_ne rfl dk_12) rfl (fun c16 => ?_) (fun c16 => ?_)
          · replace H := dz_it c16 H
            replace H := dz_sm H
            exact H
          · replace H := dz_if c16 H
            refine wp_s (i := .aload_n 0) (n := 1) (pc' := 36) (st' := [.ref 114]) rfl rfl ?_
            refine wp_s (i := .iconst 5) (n := 1) (pc' := 37) (st' := [dz_I 5, .ref 114]) rfl rfl ?_
            refine wq_cv (Dq := (D + 2)) (r' := mm_r124) (as0 := [dz_I 5]) (rest := []) (ls' := [some (.ref 114), some (dz_I 5)]) (pc' := 40) rfl rfl rfl rfl ho_M rfl rfl rfl ?_
            refine jw_M_fails (X := X) (D := D + 2) 5 s1.2 (dz_pm (dz_bi H) (fun q17 H => ?_))
            show mm_Wp X (D + 3) mm_r131 40 [some (.ref 114), some (dz_I a1), some (dz_I a2), some (dz_I s1.1), Option.map Value.int u2] [] (hz_0 q17) Q
            replace H := dz_sm H
            exact H
    · replace H := dz_if c6 H
      refine wp_s (i := .aload_n 0) (n := 1) (pc' := 14) (st' := [.ref 114]) rfl rfl ?_
      refine wq_gi (idx := 94) (pc' := 17) rfl rfl ho_M rfl rfl ?_
      refine wp_s (i := .iconst 2) (n := 1) (pc' := 18) (st' := [dz_I 2, dz_I (s1.2 114 28 0)]) rfl rfl ?_
      refine wq_ic (p := dz_c (s1.2 114 28 0) ≠ 2) (tt := 73) (pc' := 21) rfl rfl (cq_ne rfl dk_2) rfl (fun c18 => ?_) (fun c18 => ?_)
      · replace H := dz_it c18 H
        refine wp_s (i := .aload_n 0) (n := 1) (pc' := 74) (st' := [.ref 114]) rfl rfl ?_
        refine wq_gr (idx := 25) (a := 120) (pc' := 77) rfl rfl ho_M rfl rfl ?_
        refine wp_s (i := .iload_n 1) (n := 1) (pc' := 78) (st' := [dz_I a1, .ref 120]) rfl rfl ?_
        refine wp_s (i := .iload_n 3) (n := 1) (pc' := 79) (st' := [dz_I s1.1, dz_I a1, .ref 120]) rfl rfl ?_
        obtain ⟨k19, H⟩ := dz_ck H
        refine wq_is (j' := dz_c a1) (x := s1.1) (pc' := 80) rfl ha_M_11 rfl k19.1 k19.2 rfl (fun Z20 eZ20 => ?_)
        replace H := dz_le H Z20 eZ20
        clear eZ20
        refine wq_rv rfl rfl ?_
        replace H := dz_out H
        replace H := dz_sm H
        exact H
      · replace H := dz_if c18 H
        refine wp_s (i := .aload_n 0) (n := 1) (pc' := 22) (st' := [.ref 114]) rfl rfl ?_
        refine wq_gi (idx := 94) (pc' := 25) rfl rfl ho_M rfl rfl ?_
        refine wp_s (i := .iconst 2) (n := 1) (pc' := 26) (st' := [dz_I 2, dz_I (s1.2 114 28 0)]) rfl rfl ?_
        refine dz_jn (P := fun (q24 : dz_Z) => mm_Wp X (D + 3) mm_r131 40 [some (.ref 114), some (dz_I a1), some (dz_I a2), some (dz_I s1.1), Option.map Value.int u2] [] (hz_0 q24) Q) (dz_bi H) (fun q24 H => ?_) (fun H => ?_)
        · skip
          refine wp_s (i := .aload_n 0) (n := 1) (pc' := 41) (st' := [.ref 114]) rfl rfl ?_
          refine wp_s (i := .iconst 0) (n := 1) (pc' := 42) (st' := [dz_I 0, .ref 114]) rfl rfl ?_
          refine wp_s (i := .iload_n 2) (n := 1) (pc' := 43) (st' := [dz_I a2, dz_I 0, .ref 114]) rfl rfl ?_
          refine wq_cv (Dq := (D + 2)) (r' := mm_r128) (as0 := [dz_I 0, dz_I a2]) (rest := []) (ls' := [some (.ref 114), some (dz_I 0), some (dz_I a2), none]) (pc' := 46) rfl rfl rfl rfl ho_M rfl rfl rfl ?_
          refine jw_M_number (X := X) (D := D + 0) 0 a2 q24 (dz_pm (dz_bi H) (fun q25 H => ?_))
          show mm_Wp X (D + 3) mm_r131 46 [some (.ref 114), some (dz_I a1), some (dz_I a2), some (dz_I s1.1), Option.map Value.int u2] [dz_I q25.1] (hz_0 q25.2) Q
          refine wq_st (k := 4) (i := .istore 4) (n := 2) (ls' := [some (.ref 114), some (dz_I a1), some (dz_I a2), some (dz_I s1.1), some (dz_I q25.1)]) (pc' := 48) rfl rfl rfl rfl rfl ?_
          refine wp_s (i := .aload_n 0) (n := 1) (pc' := 49) (st' := [.ref 114]) rfl rfl ?_
          refine wq_gi (idx := 85) (pc' := 52) rfl rfl ho_M rfl rfl ?_
          refine wq_if (p := dz_c (q25.2 114 24 0) ≠ 0) (tt := 70) (pc' := 55) rfl rfl (cz_ne rfl) rfl (fun c26 => ?_) (fun c26 => ?_)
          · replace H := dz_it c26 H
            refine wp_s (i := .goto (-68)) (n := 3) (pc' := 2) (st' := []) rfl rfl ?_
            replace H := dz_back H
            exact H (some (Int32.ofInt q25.1))
          · replace H := dz_if c26 H
            refine wp_s (i := .aload_n 0) (n := 1) (pc' := 56) (st' := [.ref 114]) rfl rfl ?_
            refine wq_gr (idx := 25) (a := 120) (pc' := 59) rfl rfl ho_M rfl rfl ?_
            refine wp_s (i := .iload_n 1) (n := 1) (pc' := 60) (st' := [dz_I a1, .ref 120]) rfl rfl ?_
            refine wp_s (i := .iconst 1) (n := 1) (pc' := 61) (st' := [dz_I 1, dz_I a1, .ref 120]) rfl rfl ?_
            refine wq_2 (i := .iadd) (z := a1 + 1) (pc' := 62) rfl rfl (op_add _ _) rfl ?_
            refine wp_s (i := .iload_n 3) (n := 1) (pc' := 63) (st' := [dz_I s1.1, dz_I (a1 + 1), .ref 120]) rfl rfl ?_
            refine wq_2 (i := .iadd) (z := (a1 + 1) + s1.1) (pc' := 64) rfl rfl (op_add _ _) rfl ?_
            refine wp_s (i := .iload 4) (n := 2) (pc' := 66) (st' := [dz_I q25.1, dz_I ((a1 + 1) + s1.1), .ref 120]) rfl rfl ?_
            obtain ⟨k27, H⟩ := dz_ck H
            refine wq_is (j' := dz_c ((a1 + 1) + s1.1)) (x := q25.1) (pc' := 67) rfl ha_M_11 rfl k27.1 k27.2 rfl (fun Z28 eZ28 => ?_)
            replace H := dz_le H Z28 eZ28
            clear eZ28
            refine wq_inc (k := 3) (d := 1) (x := s1.1) (ls' := [some (.ref 114), some (dz_I a1), some (dz_I a2), some (dz_I (s1.1 + 1)), some (dz_I q25.1)]) (pc' := 70) rfl rfl rfl rfl ?_
            refine wp_s (i := .goto (-68)) (n := 3) (pc' := 2) (st' := []) rfl rfl ?_
            replace H := dz_back H
            exact H (some (Int32.ofInt q25.1))
        · skip
          refine wq_ic (p := dz_c (s1.2 114 28 0) ≠ 2) (tt := 40) (pc' := 29) rfl rfl (cq_ne rfl dk_2) rfl (fun c29 => ?_) (fun c29 => ?_)
          · replace H := dz_it c29 H
            replace H := dz_sm H
            exact H
          · replace H := dz_if c29 H
            refine wp_s (i := .iload_n 3) (n := 1) (pc' := 30) (st' := [dz_I s1.1]) rfl rfl ?_
            refine wp_s (i := .bipush 12) (n := 2) (pc' := 32) (st' := [dz_I 12, dz_I s1.1]) rfl rfl ?_
            refine wq_ic (p := dz_c s1.1 ≠ 12) (tt := 40) (pc' := 35) rfl rfl (cq_ne rfl dk_12) rfl (fun c30 => ?_) (fun c30 => ?_)
            · replace H := dz_it c30 H
              replace H := dz_sm H
              exact H
            · replace H := dz_if c30 H
              refine wp_s (i := .aload_n 0) (n := 1) (pc' := 36) (st' := [.ref 114]) rfl rfl ?_
              refine wp_s (i := .iconst 5) (n := 1) (pc' := 37) (st' := [dz_I 5, .ref 114]) rfl rfl ?_
              refine wq_cv (Dq := (D + 2)) (r' := mm_r124) (as0 := [dz_I 5]) (rest := []) (ls' := [some (.ref 114), some (dz_I 5)]) (pc' := 40) rfl rfl rfl rfl ho_M rfl rfl rfl ?_
              refine jw_M_fails (X := X) (D := D + 2) 5 s1.2 (dz_pm (dz_bi H) (fun q31 H => ?_))
              show mm_Wp X (D + 3) mm_r131 40 [some (.ref 114), some (dz_I a1), some (dz_I a2), some (dz_I s1.1), Option.map Value.int u2] [] (hz_0 q31) Q
              replace H := dz_sm H
              exact H
-- 132
def jf_M_readThing (a1 : Int) (Z : dz_Z) : Option (dz_Z) := if 0 ≤ dz_c a1 ∧ dz_c a1 < 5 then Option.bind (α := Int) (if dz_c a1 ≠ 0 then (if dz_c a1 ≠ 1 then (if dz_c a1 ≠ 2 then (if dz_c a1 ≠ 3 then (some 4) else (some 3)) else (some 8)) else (some 5)) else (some 4)) (fun (q6 : Int) => if dz_c (Z 114 16 (dz_c a1)) ≠ dz_c q6 then (Option.bind (jf_M_step Z) fun q8 => Option.bind (α := dz_Z) (if dz_c a1 ≠ 0 then (if dz_c a1 ≠ 1 then (if dz_c a1 ≠ 2 then (if dz_c a1 ≠ 3 then (Option.bind (jf_M_number 0 11 q8) fun q50 => if 0 ≤ dz_c (3 * (Z 114 16 (dz_c a1))) ∧ dz_c (3 * (Z 114 16 (dz_c a1))) < 12 then dz_a (dz_u q50.2 114 15 (dz_c (3 * (Z 114 16 (dz_c a1)))) q50.1) fun Z52 => Option.bind (jf_M_number (Z52 114 15 (dz_c (3 * (Z 114 16 (dz_c a1))))) 11 Z52) fun q53 => if 0 ≤ dz_c ((3 * (Z 114 16 (dz_c a1))) + 1) ∧ dz_c ((3 * (Z 114 16 (dz_c a1))) + 1) < 12 then dz_a (dz_u q53.2 114 15 (dz_c ((3 * (Z 114 16 (dz_c a1))) + 1)) q53.1) fun Z55 => Option.bind (jf_M_number 1 99 Z55) fun q56 => if 0 ≤ dz_c ((3 * (Z 114 16 (dz_c a1))) + 2) ∧ dz_c ((3 * (Z 114 16 (dz_c a1))) + 2) < 12 then dz_a (dz_u q56.2 114 15 (dz_c ((3 * (Z 114 16 (dz_c a1))) + 2)) q56.1) fun Z58 => some Z58 else none else none else none) else (Option.bind (jf_M_readSeconds (34 + (13 * (Z 114 16 (dz_c a1)))) 9 q8) fun q59 => some q59)) else (Option.bind (jf_M_number 0 7 q8) fun q60 => if 0 ≤ dz_c (Z 114 16 (dz_c a1)) ∧ dz_c (Z 114 16 (dz_c a1)) < 8 then dz_a (dz_u q60.2 114 14 (dz_c (Z 114 16 (dz_c a1))) q60.1) fun Z62 => Option.bind (jf_M_readCup (Z 114 16 (dz_c a1)) Z62) fun q63 => some q63 else none)) else (Option.bind (jf_M_readWay (Z 114 16 (dz_c a1)) q8) fun q64 => if 0 ≤ dz_c (2 * (Z 114 16 (dz_c a1))) ∧ dz_c (2 * (Z 114 16 (dz_c a1))) < 10 then dz_a (dz_u q64.2 114 13 (dz_c (2 * (Z 114 16 (dz_c a1)))) q64.1) fun Z66 => Option.bind (jf_M_readWay (Z 114 16 (dz_c a1)) Z66) fun q67 => if 0 ≤ dz_c ((2 * (Z 114 16 (dz_c a1))) + 1) ∧ dz_c ((2 * (Z 114 16 (dz_c a1))) + 1) < 10 then dz_a (dz_u q67.2 114 13 (dz_c ((2 * (Z 114 16 (dz_c a1))) + 1)) q67.1) fun Z69 => if 0 ≤ dz_c (0 + (Z 114 16 (dz_c a1))) ∧ dz_c (0 + (Z 114 16 (dz_c a1))) < 140 then dz_a (dz_u Z69 114 11 (dz_c (0 + (Z 114 16 (dz_c a1)))) 2) fun Z71 => some Z71 else none else none else none)) else (Option.bind (jf_M_number 1 9 q8) fun q72 => if 0 ≤ dz_c (2 * (Z 114 16 (dz_c a1))) ∧ dz_c (2 * (Z 114 16 (dz_c a1))) < 8 then dz_a (dz_u q72.2 114 12 (dz_c (2 * (Z 114 16 (dz_c a1)))) q72.1) fun Z74 => Option.bind (jf_M_number 0 4 Z74) fun q75 => if 0 ≤ dz_c ((2 * (Z 114 16 (dz_c a1))) + 1) ∧ dz_c ((2 * (Z 114 16 (dz_c a1))) + 1) < 8 then dz_a (dz_u q75.2 114 12 (dz_c ((2 * (Z 114 16 (dz_c a1))) + 1)) q75.1) fun Z77 => if dz_c (Z77 114 12 (dz_c ((2 * (Z 114 16 (dz_c a1))) + 1))) ≤ dz_c (Z77 114 18 0) then (dz_a (dz_u Z77 114 18 0 (Z77 114 18 0)) fun Z79 => some Z79) else (dz_a (dz_u Z77 114 18 0 (Z77 114 12 (dz_c ((2 * (Z 114 16 (dz_c a1))) + 1)))) fun Z80 => some Z80) else none else none)) (fun (q44 : dz_Z) => dz_a (dz_u q44 114 16 (dz_c a1) ((q44 114 16 (dz_c a1)) + 1)) fun Z45 => some Z45)) else (Option.bind (jf_M_fails 5 Z) fun q81 => some q81)) else none
set_option maxRecDepth 20000 in
theorem jw_M_readThing {X : Option (List Int32)} {D : Nat} {Q : Option Value → mm_H → Prop} (a1 : Int) (Z : dz_Z) (H : dz_p (jf_M_readThing a1 Z) (fun q => Q (none) (hz_0 q))) : mm_Wp X (D + 4) mm_r132 0 [some (.ref 114), some (dz_I a1), none, none] [] (hz_0 Z) Q := by
  unfold jf_M_readThing at H
  refine wp_s (i := .aload_n 0) (n := 1) (pc' := 1) (st' := [.ref 114]) rfl rfl ?_
  refine wq_gr (idx := 40) (a := 125) (pc' := 4) rfl rfl ho_M rfl rfl ?_
  refine wp_s (i := .iload_n 1) (n := 1) (pc' := 5) (st' := [dz_I a1, .ref 125]) rfl rfl ?_
  obtain ⟨k1, H⟩ := dz_ck H
  refine wq_ia (j' := dz_c a1) (pc' := 6) rfl ha_M_16 rfl k1.1 k1.2 rfl ?_
  refine wq_st (k := 2) (i := .istore_n 2) (n := 1) (ls' := [some (.ref 114), some (dz_I a1), some (dz_I (Z 114 16 (dz_c a1))), none]) (pc' := 7) rfl rfl rfl rfl rfl ?_
  refine wp_s (i := .iload_n 1) (n := 1) (pc' := 8) (st' := [dz_I a1]) rfl rfl ?_
  refine dz_jn (P := fun (q6 : Int) => mm_Wp X (D + 4) mm_r132 44 [some (.ref 114), some (dz_I a1), some (dz_I (Z 114 16 (dz_c a1))), none] [dz_I q6] (hz_0 Z) Q) (dz_bi H) (fun q6 H => ?_) (fun H => ?_)
  · skip
    refine wq_st (k := 3) (i := .istore_n 3) (n := 1) (ls' := [some (.ref 114), some (dz_I a1), some (dz_I (Z 114 16 (dz_c a1))), some (dz_I q6)]) (pc' := 45) rfl rfl rfl rfl rfl ?_
    refine wp_s (i := .iload_n 2) (n := 1) (pc' := 46) (st' := [dz_I (Z 114 16 (dz_c a1))]) rfl rfl ?_
    refine wp_s (i := .iload_n 3) (n := 1) (pc' := 47) (st' := [dz_I q6, dz_I (Z 114 16 (dz_c a1))]) rfl rfl ?_
    refine wq_ic (p := dz_c (Z 114 16 (dz_c a1)) ≠ dz_c q6) (tt := 56) (pc' := 50) rfl rfl (cq_ne rfl rfl) rfl (fun c7 => ?_) (fun c7 => ?_)
    · replace H := dz_it c7 H
      refine wp_s (i := .aload_n 0) (n := 1) (pc' := 57) (st' := [.ref 114]) rfl rfl ?_
      refine wq_cv (Dq := (D + 3)) (r' := mm_r126) (as0 := []) (rest := []) (ls' := [some (.ref 114), none]) (pc' := 60) rfl rfl rfl rfl ho_M rfl rfl rfl ?_
      refine jw_M_step (X := X) (D := D + 2) Z (dz_pm (dz_bi H) (fun q8 H => ?_))
      show mm_Wp X (D + 4) mm_r132 60 [some (.ref 114), some (dz_I a1), some (dz_I (Z 114 16 (dz_c a1))), some (dz_I q6)] [] (hz_0 q8) Q
      refine wp_s (i := .iload_n 1) (n := 1) (pc' := 61) (st' := [dz_I a1]) rfl rfl ?_
      refine dz_jn (P := fun (q44 : dz_Z) => mm_Wp X (D + 4) mm_r132 284 [some (.ref 114), some (dz_I a1), some (dz_I (Z 114 16 (dz_c a1))), some (dz_I q6)] [] (hz_0 q44) Q) (dz_bi H) (fun q44 H => ?_) (fun H => ?_)
      · skip
        refine wp_s (i := .aload_n 0) (n := 1) (pc' := 285) (st' := [.ref 114]) rfl rfl ?_
        refine wq_gr (idx := 40) (a := 125) (pc' := 288) rfl rfl ho_M rfl rfl ?_
        refine wp_s (i := .iload_n 1) (n := 1) (pc' := 289) (st' := [dz_I a1, .ref 125]) rfl rfl ?_
        refine wp_s (i := .dup2) (n := 1) (pc' := 290) (st' := [dz_I a1, .ref 125, dz_I a1, .ref 125]) rfl rfl ?_
        refine wq_ia (j' := dz_c a1) (pc' := 291) rfl ha_M_16 rfl k1.1 k1.2 rfl ?_
        refine wp_s (i := .iconst 1) (n := 1) (pc' := 292) (st' := [dz_I 1, dz_I (q44 114 16 (dz_c a1)), dz_I a1, .ref 125]) rfl rfl ?_
        refine wq_2 (i := .iadd) (z := (q44 114 16 (dz_c a1)) + 1) (pc' := 293) rfl rfl (op_add _ _) rfl ?_
        refine wq_is (j' := dz_c a1) (x := (q44 114 16 (dz_c a1)) + 1) (pc' := 294) rfl ha_M_16 rfl k1.1 k1.2 rfl (fun Z45 eZ45 => ?_)
        replace H := dz_le H Z45 eZ45
        clear eZ45
        refine wq_rv rfl rfl ?_
        replace H := dz_sm H
        exact H
      · skip
        refine wq_if (p := dz_c a1 ≠ 0) (tt := 136) (pc' := 64) rfl rfl (cz_ne rfl) rfl (fun c46 => ?_) (fun c46 => ?_)
        · replace H := dz_it c46 H
          refine wp_s (i := .iload_n 1) (n := 1) (pc' := 137) (st' := [dz_I a1]) rfl rfl ?_
          refine wp_s (i := .iconst 1) (n := 1) (pc' := 138) (st' := [dz_I 1, dz_I a1]) rfl rfl ?_
          refine wq_ic (p := dz_c a1 ≠ 1) (tt := 181) (pc' := 141) rfl rfl (cq_ne rfl dk_1) rfl (fun c47 => ?_) (fun c47 => ?_)
          · replace H := dz_it c47 H
            refine wp_s (i := .iload_n 1) (n := 1) (pc' := 182) (st' := [dz_I a1]) rfl rfl ?_
            refine wp_s (i := .iconst 2) (n := 1) (pc' := 183) (st' := [dz_I 2, dz_I a1]) rfl rfl ?_
            refine wq_ic (p := dz_c a1 ≠ 2) (tt := 207) (pc' := 186) rfl rfl (cq_ne rfl dk_2) rfl (fun c48 => ?_) (fun c48 => ?_)
            · replace H := dz_it c48 H
              refine wp_s (i := .iload_n 1) (n := 1) (pc' := 208) (st' := [dz_I a1]) rfl rfl ?_
              refine wp_s (i := .iconst 3) (n := 1) (pc' := 209) (st' := [dz_I 3, dz_I a1]) rfl rfl ?_
              refine wq_ic (p := dz_c a1 ≠ 3) (tt := 228) (pc' := 212) rfl rfl (cq_ne rfl dk_3) rfl (fun c49 => ?_) (fun c49 => ?_)
              · replace H := dz_it c49 H
                refine wp_s (i := .aload_n 0) (n := 1) (pc' := 229) (st' := [.ref 114]) rfl rfl ?_
                refine wq_gr (idx := 37) (a := 124) (pc' := 232) rfl rfl ho_M rfl rfl ?_
                refine wp_s (i := .iconst 3) (n := 1) (pc' := 233) (st' := [dz_I 3, .ref 124]) rfl rfl ?_
                refine wp_s (i := .iload_n 2) (n := 1) (pc' := 234) (st' := [dz_I (Z 114 16 (dz_c a1)), dz_I 3, .ref 124]) rfl rfl ?_
                refine wq_2 (i := .imul) (z := 3 * (Z 114 16 (dz_c a1))) (pc' := 235) rfl rfl (op_mul _ _) rfl ?_
                refine wp_s (i := .aload_n 0) (n := 1) (pc' := 236) (st' := [.ref 114, dz_I (3 * (Z 114 16 (dz_c a1))), .ref 124]) rfl rfl ?_
                refine wp_s (i := .iconst 0) (n := 1) (pc' := 237) (st' := [dz_I 0, .ref 114, dz_I (3 * (Z 114 16 (dz_c a1))), .ref 124]) rfl rfl ?_
                refine wp_s (i := .bipush 11) (n := 2) (pc' := 239) (st' := [dz_I 11, dz_I 0, .ref 114, dz_I (3 * (Z 114 16 (dz_c a1))), .ref 124]) rfl rfl ?_
                refine wq_cv (Dq := (D + 3)) (r' := mm_r128) (as0 := [dz_I 0, dz_I 11]) (rest := [dz_I (3 * (Z 114 16 (dz_c a1))), .ref 124]) (ls' := [some (.ref 114), some (dz_I 0), some (dz_I 11), none]) (pc' := 242) rfl rfl rfl rfl ho_M rfl rfl rfl ?_
                refine jw_M_number (X := X) (D := D + 1) 0 11 q8 (dz_pm (dz_bi H) (fun q50 H => ?_))
                show mm_Wp X (D + 4) mm_r132 242 [some (.ref 114), some (dz_I a1), some (dz_I (Z 114 16 (dz_c a1))), some (dz_I q6)] [dz_I q50.1, dz_I (3 * (Z 114 16 (dz_c a1))), .ref 124] (hz_0 q50.2) Q
                obtain ⟨k51, H⟩ := dz_ck H
                refine wq_is (j' := dz_c (3 * (Z 114 16 (dz_c a1)))) (x := q50.1) (pc' := 243) rfl ha_M_15 rfl k51.1 k51.2 rfl (fun Z52 eZ52 => ?_)
                replace H := dz_le H Z52 eZ52
                clear eZ52
                refine wp_s (i := .aload_n 0) (n := 1) (pc' := 244) (st' := [.ref 114]) rfl rfl ?_
                refine wq_gr (idx := 37) (a := 124) (pc' := 247) rfl rfl ho_M rfl rfl ?_
                refine wp_s (i := .iconst 3) (n := 1) (pc' := 248) (st' := [dz_I 3, .ref 124]) rfl rfl ?_
                refine wp_s (i := .iload_n 2) (n := 1) (pc' := 249) (st' := [dz_I (Z 114 16 (dz_c a1)), dz_I 3, .ref 124]) rfl rfl ?_
                refine wq_2 (i := .imul) (z := 3 * (Z 114 16 (dz_c a1))) (pc' := 250) rfl rfl (op_mul _ _) rfl ?_
                refine wp_s (i := .iconst 1) (n := 1) (pc' := 251) (st' := [dz_I 1, dz_I (3 * (Z 114 16 (dz_c a1))), .ref 124]) rfl rfl ?_
                refine wq_2 (i := .iadd) (z := (3 * (Z 114 16 (dz_c a1))) + 1) (pc' := 252) rfl rfl (op_add _ _) rfl ?_
                refine wp_s (i := .aload_n 0) (n := 1) (pc' := 253) (st' := [.ref 114, dz_I ((3 * (Z 114 16 (dz_c a1))) + 1), .ref 124]) rfl rfl ?_
                refine wp_s (i := .aload_n 0) (n := 1) (pc' := 254) (st' := [.ref 114, .ref 114, dz_I ((3 * (Z 114 16 (dz_c a1))) + 1), .ref 124]) rfl rfl ?_
                refine wq_gr (idx := 37) (a := 124) (pc' := 257) rfl rfl ho_M rfl rfl ?_
                refine wp_s (i := .iconst 3) (n := 1) (pc' := 258) (st' := [dz_I 3, .ref 124, .ref 114, dz_I ((3 * (Z 114 16 (dz_c a1))) + 1), .ref 124]) rfl rfl ?_
                refine wp_s (i := .iload_n 2) (n := 1) (pc' := 259) (st' := [dz_I (Z 114 16 (dz_c a1)), dz_I 3, .ref 124, .ref 114, dz_I ((3 * (Z 114 16 (dz_c a1))) + 1), .ref 124]) rfl rfl ?_
                refine wq_2 (i := .imul) (z := 3 * (Z 114 16 (dz_c a1))) (pc' := 260) rfl rfl (op_mul _ _) rfl ?_
                refine wq_ia (j' := dz_c (3 * (Z 114 16 (dz_c a1)))) (pc' := 261) rfl ha_M_15 rfl k51.1 k51.2 rfl ?_
                refine wp_s (i := .bipush 11) (n := 2) (pc' := 263) (st' := [dz_I 11, dz_I (Z52 114 15 (dz_c (3 * (Z 114 16 (dz_c a1))))), .ref 114, dz_I ((3 * (Z 114 16 (dz_c a1))) + 1), .ref 124]) rfl rfl ?_
                refine wq_cv (Dq := (D + 3)) (r' := mm_r128) (as0 := [dz_I (Z52 114 15 (dz_c (3 * (Z 114 16 (dz_c a1))))), dz_I 11]) (rest := [dz_I ((3 * (Z 114 16 (dz_c a1))) + 1), .ref 124]) (ls' := [some (.ref 114), some (dz_I (Z52 114 15 (dz_c (3 * (Z 114 16 (dz_c a1)))))), some (dz_I 11), none]) (pc' := 266) rfl rfl rfl rfl ho_M rfl rfl rfl ?_
                refine jw_M_number (X := X) (D := D + 1) (Z52 114 15 (dz_c (3 * (Z 114 16 (dz_c a1))))) 11 Z52 (dz_pm (dz_bi H) (fun q53 H => ?_))
                show mm_Wp X (D + 4) mm_r132 266 [some (.ref 114), some (dz_I a1), some (dz_I (Z 114 16 (dz_c a1))), some (dz_I q6)] [dz_I q53.1, dz_I ((3 * (Z 114 16 (dz_c a1))) + 1), .ref 124] (hz_0 q53.2) Q
                obtain ⟨k54, H⟩ := dz_ck H
                refine wq_is (j' := dz_c ((3 * (Z 114 16 (dz_c a1))) + 1)) (x := q53.1) (pc' := 267) rfl ha_M_15 rfl k54.1 k54.2 rfl (fun Z55 eZ55 => ?_)
                replace H := dz_le H Z55 eZ55
                clear eZ55
                refine wp_s (i := .aload_n 0) (n := 1) (pc' := 268) (st' := [.ref 114]) rfl rfl ?_
                refine wq_gr (idx := 37) (a := 124) (pc' := 271) rfl rfl ho_M rfl rfl ?_
                refine wp_s (i := .iconst 3) (n := 1) (pc' := 272) (st' := [dz_I 3, .ref 124]) rfl rfl ?_
                refine wp_s (i := .iload_n 2) (n := 1) (pc' := 273) (st' := [dz_I (Z 114 16 (dz_c a1)), dz_I 3, .ref 124]) rfl rfl ?_
                refine wq_2 (i := .imul) (z := 3 * (Z 114 16 (dz_c a1))) (pc' := 274) rfl rfl (op_mul _ _) rfl ?_
                refine wp_s (i := .iconst 2) (n := 1) (pc' := 275) (st' := [dz_I 2, dz_I (3 * (Z 114 16 (dz_c a1))), .ref 124]) rfl rfl ?_
                refine wq_2 (i := .iadd) (z := (3 * (Z 114 16 (dz_c a1))) + 2) (pc' := 276) rfl rfl (op_add _ _) rfl ?_
                refine wp_s (i := .aload_n 0) (n := 1) (pc' := 277) (st' := [.ref 114, dz_I ((3 * (Z 114 16 (dz_c a1))) + 2), .ref 124]) rfl rfl ?_
                refine wp_s (i := .iconst 1) (n := 1) (pc' := 278) (st' := [dz_I 1, .ref 114, dz_I ((3 * (Z 114 16 (dz_c a1))) + 2), .ref 124]) rfl rfl ?_
                refine wp_s (i := .bipush 99) (n := 2) (pc' := 280) (st' := [dz_I 99, dz_I 1, .ref 114, dz_I ((3 * (Z 114 16 (dz_c a1))) + 2), .ref 124]) rfl rfl ?_
                refine wq_cv (Dq := (D + 3)) (r' := mm_r128) (as0 := [dz_I 1, dz_I 99]) (rest := [dz_I ((3 * (Z 114 16 (dz_c a1))) + 2), .ref 124]) (ls' := [some (.ref 114), some (dz_I 1), some (dz_I 99), none]) (pc' := 283) rfl rfl rfl rfl ho_M rfl rfl rfl ?_
                refine jw_M_number (X := X) (D := D + 1) 1 99 Z55 (dz_pm (dz_bi H) (fun q56 H => ?_))
                show mm_Wp X (D + 4) mm_r132 283 [some (.ref 114), some (dz_I a1), some (dz_I (Z 114 16 (dz_c a1))), some (dz_I q6)] [dz_I q56.1, dz_I ((3 * (Z 114 16 (dz_c a1))) + 2), .ref 124] (hz_0 q56.2) Q
                obtain ⟨k57, H⟩ := dz_ck H
                refine wq_is (j' := dz_c ((3 * (Z 114 16 (dz_c a1))) + 2)) (x := q56.1) (pc' := 284) rfl ha_M_15 rfl k57.1 k57.2 rfl (fun Z58 eZ58 => ?_)
                replace H := dz_le H Z58 eZ58
                clear eZ58
                replace H := dz_sm H
                exact H
              · replace H := dz_if c49 H
                refine wp_s (i := .aload_n 0) (n := 1) (pc' := 213) (st' := [.ref 114]) rfl rfl ?_
                refine wp_s (i := .bipush 34) (n := 2) (pc' := 215) (st' := [dz_I 34, .ref 114]) rfl rfl ?_
                refine wp_s (i := .bipush 13) (n := 2) (pc' := 217) (st' := [dz_I 13, dz_I 34, .ref 114]) rfl rfl ?_
                refine wp_s (i := .iload_n 2) (n := 1) (pc' := 218) (st' := [dz_I (Z 114 16 (dz_c a1)), dz_I 13, dz_I 34, .ref 114]) rfl rfl ?_
                refine wq_2 (i := .imul) (z := 13 * (Z 114 16 (dz_c a1))) (pc' := 219) rfl rfl (op_mul _ _) rfl ?_
                refine wq_2 (i := .iadd) (z := 34 + (13 * (Z 114 16 (dz_c a1)))) (pc' := 220) rfl rfl (op_add _ _) rfl ?_
                refine wp_s (i := .bipush 9) (n := 2) (pc' := 222) (st' := [dz_I 9, dz_I (34 + (13 * (Z 114 16 (dz_c a1)))), .ref 114]) rfl rfl ?_
                refine wq_cv (Dq := (D + 3)) (r' := mm_r131) (as0 := [dz_I (34 + (13 * (Z 114 16 (dz_c a1)))), dz_I 9]) (rest := []) (ls' := [some (.ref 114), some (dz_I (34 + (13 * (Z 114 16 (dz_c a1))))), some (dz_I 9), none, none]) (pc' := 225) rfl rfl rfl rfl ho_M rfl rfl rfl ?_
                refine jw_M_readSeconds (X := X) (D := D + 0) (34 + (13 * (Z 114 16 (dz_c a1)))) 9 q8 (dz_pm (dz_bi H) (fun q59 H => ?_))
                show mm_Wp X (D + 4) mm_r132 225 [some (.ref 114), some (dz_I a1), some (dz_I (Z 114 16 (dz_c a1))), some (dz_I q6)] [] (hz_0 q59) Q
                refine wp_s (i := .goto 59) (n := 3) (pc' := 284) (st' := []) rfl rfl ?_
                replace H := dz_sm H
                exact H
            · replace H := dz_if c48 H
              refine wp_s (i := .aload_n 0) (n := 1) (pc' := 187) (st' := [.ref 114]) rfl rfl ?_
              refine wq_gr (idx := 34) (a := 123) (pc' := 190) rfl rfl ho_M rfl rfl ?_
              refine wp_s (i := .iload_n 2) (n := 1) (pc' := 191) (st' := [dz_I (Z 114 16 (dz_c a1)), .ref 123]) rfl rfl ?_
              refine wp_s (i := .aload_n 0) (n := 1) (pc' := 192) (st' := [.ref 114, dz_I (Z 114 16 (dz_c a1)), .ref 123]) rfl rfl ?_
              refine wp_s (i := .iconst 0) (n := 1) (pc' := 193) (st' := [dz_I 0, .ref 114, dz_I (Z 114 16 (dz_c a1)), .ref 123]) rfl rfl ?_
              refine wp_s (i := .bipush 7) (n := 2) (pc' := 195) (st' := [dz_I 7, dz_I 0, .ref 114, dz_I (Z 114 16 (dz_c a1)), .ref 123]) rfl rfl ?_
              refine wq_cv (Dq := (D + 3)) (r' := mm_r128) (as0 := [dz_I 0, dz_I 7]) (rest := [dz_I (Z 114 16 (dz_c a1)), .ref 123]) (ls' := [some (.ref 114), some (dz_I 0), some (dz_I 7), none]) (pc' := 198) rfl rfl rfl rfl ho_M rfl rfl rfl ?_
              refine jw_M_number (X := X) (D := D + 1) 0 7 q8 (dz_pm (dz_bi H) (fun q60 H => ?_))
              show mm_Wp X (D + 4) mm_r132 198 [some (.ref 114), some (dz_I a1), some (dz_I (Z 114 16 (dz_c a1))), some (dz_I q6)] [dz_I q60.1, dz_I (Z 114 16 (dz_c a1)), .ref 123] (hz_0 q60.2) Q
              obtain ⟨k61, H⟩ := dz_ck H
              refine wq_is (j' := dz_c (Z 114 16 (dz_c a1))) (x := q60.1) (pc' := 199) rfl ha_M_14 rfl k61.1 k61.2 rfl (fun Z62 eZ62 => ?_)
              replace H := dz_le H Z62 eZ62
              clear eZ62
              refine wp_s (i := .aload_n 0) (n := 1) (pc' := 200) (st' := [.ref 114]) rfl rfl ?_
              refine wp_s (i := .iload_n 2) (n := 1) (pc' := 201) (st' := [dz_I (Z 114 16 (dz_c a1)), .ref 114]) rfl rfl ?_
              refine wq_cv (Dq := (D + 3)) (r' := mm_r130) (as0 := [dz_I (Z 114 16 (dz_c a1))]) (rest := []) (ls' := [some (.ref 114), some (dz_I (Z 114 16 (dz_c a1))), none]) (pc' := 204) rfl rfl rfl rfl ho_M rfl rfl rfl ?_
              refine jw_M_readCup (X := X) (D := D + 0) (Z 114 16 (dz_c a1)) Z62 (dz_pm (dz_bi H) (fun q63 H => ?_))
              show mm_Wp X (D + 4) mm_r132 204 [some (.ref 114), some (dz_I a1), some (dz_I (Z 114 16 (dz_c a1))), some (dz_I q6)] [] (hz_0 q63) Q
              refine wp_s (i := .goto 80) (n := 3) (pc' := 284) (st' := []) rfl rfl ?_
              replace H := dz_sm H
              exact H
          · replace H := dz_if c47 H
            refine wp_s (i := .aload_n 0) (n := 1) (pc' := 142) (st' := [.ref 114]) rfl rfl ?_
            refine wq_gr (idx := 31) (a := 122) (pc' := 145) rfl rfl ho_M rfl rfl ?_
            refine wp_s (i := .iconst 2) (n := 1) (pc' := 146) (st' := [dz_I 2, .ref 122]) rfl rfl ?_
            refine wp_s (i := .iload_n 2) (n := 1) (pc' := 147) (st' := [dz_I (Z 114 16 (dz_c a1)), dz_I 2, .ref 122]) rfl rfl ?_
            refine wq_2 (i := .imul) (z := 2 * (Z 114 16 (dz_c a1))) (pc' := 148) rfl rfl (op_mul _ _) rfl ?_
            refine wp_s (i := .aload_n 0) (n := 1) (pc' := 149) (st' := [.ref 114, dz_I (2 * (Z 114 16 (dz_c a1))), .ref 122]) rfl rfl ?_
            refine wp_s (i := .iload_n 2) (n := 1) (pc' := 150) (st' := [dz_I (Z 114 16 (dz_c a1)), .ref 114, dz_I (2 * (Z 114 16 (dz_c a1))), .ref 122]) rfl rfl ?_
            refine wq_cv (Dq := (D + 3)) (r' := mm_r129) (as0 := [dz_I (Z 114 16 (dz_c a1))]) (rest := [dz_I (2 * (Z 114 16 (dz_c a1))), .ref 122]) (ls' := [some (.ref 114), some (dz_I (Z 114 16 (dz_c a1))), none, none]) (pc' := 153) rfl rfl rfl rfl ho_M rfl rfl rfl ?_
            refine jw_M_readWay (X := X) (D := D + 0) (Z 114 16 (dz_c a1)) q8 (dz_pm (dz_bi H) (fun q64 H => ?_))
            show mm_Wp X (D + 4) mm_r132 153 [some (.ref 114), some (dz_I a1), some (dz_I (Z 114 16 (dz_c a1))), some (dz_I q6)] [dz_I q64.1, dz_I (2 * (Z 114 16 (dz_c a1))), .ref 122] (hz_0 q64.2) Q
            obtain ⟨k65, H⟩ := dz_ck H
            refine wq_is (j' := dz_c (2 * (Z 114 16 (dz_c a1)))) (x := q64.1) (pc' := 154) rfl ha_M_13 rfl k65.1 k65.2 rfl (fun Z66 eZ66 => ?_)
            replace H := dz_le H Z66 eZ66
            clear eZ66
            refine wp_s (i := .aload_n 0) (n := 1) (pc' := 155) (st' := [.ref 114]) rfl rfl ?_
            refine wq_gr (idx := 31) (a := 122) (pc' := 158) rfl rfl ho_M rfl rfl ?_
            refine wp_s (i := .iconst 2) (n := 1) (pc' := 159) (st' := [dz_I 2, .ref 122]) rfl rfl ?_
            refine wp_s (i := .iload_n 2) (n := 1) (pc' := 160) (st' := [dz_I (Z 114 16 (dz_c a1)), dz_I 2, .ref 122]) rfl rfl ?_
            refine wq_2 (i := .imul) (z := 2 * (Z 114 16 (dz_c a1))) (pc' := 161) rfl rfl (op_mul _ _) rfl ?_
            refine wp_s (i := .iconst 1) (n := 1) (pc' := 162) (st' := [dz_I 1, dz_I (2 * (Z 114 16 (dz_c a1))), .ref 122]) rfl rfl ?_
            refine wq_2 (i := .iadd) (z := (2 * (Z 114 16 (dz_c a1))) + 1) (pc' := 163) rfl rfl (op_add _ _) rfl ?_
            refine wp_s (i := .aload_n 0) (n := 1) (pc' := 164) (st' := [.ref 114, dz_I ((2 * (Z 114 16 (dz_c a1))) + 1), .ref 122]) rfl rfl ?_
            refine wp_s (i := .iload_n 2) (n := 1) (pc' := 165) (st' := [dz_I (Z 114 16 (dz_c a1)), .ref 114, dz_I ((2 * (Z 114 16 (dz_c a1))) + 1), .ref 122]) rfl rfl ?_
            refine wq_cv (Dq := (D + 3)) (r' := mm_r129) (as0 := [dz_I (Z 114 16 (dz_c a1))]) (rest := [dz_I ((2 * (Z 114 16 (dz_c a1))) + 1), .ref 122]) (ls' := [some (.ref 114), some (dz_I (Z 114 16 (dz_c a1))), none, none]) (pc' := 168) rfl rfl rfl rfl ho_M rfl rfl rfl ?_
            refine jw_M_readWay (X := X) (D := D + 0) (Z 114 16 (dz_c a1)) Z66 (dz_pm (dz_bi H) (fun q67 H => ?_))
            show mm_Wp X (D + 4) mm_r132 168 [some (.ref 114), some (dz_I a1), some (dz_I (Z 114 16 (dz_c a1))), some (dz_I q6)] [dz_I q67.1, dz_I ((2 * (Z 114 16 (dz_c a1))) + 1), .ref 122] (hz_0 q67.2) Q
            obtain ⟨k68, H⟩ := dz_ck H
            refine wq_is (j' := dz_c ((2 * (Z 114 16 (dz_c a1))) + 1)) (x := q67.1) (pc' := 169) rfl ha_M_13 rfl k68.1 k68.2 rfl (fun Z69 eZ69 => ?_)
            replace H := dz_le H Z69 eZ69
            clear eZ69
            refine wp_s (i := .aload_n 0) (n := 1) (pc' := 170) (st' := [.ref 114]) rfl rfl ?_
            refine wq_gr (idx := 25) (a := 120) (pc' := 173) rfl rfl ho_M rfl rfl ?_
            refine wp_s (i := .iconst 0) (n := 1) (pc' := 174) (st' := [dz_I 0, .ref 120]) rfl rfl ?_
            refine wp_s (i := .iload_n 2) (n := 1) (pc' := 175) (st' := [dz_I (Z 114 16 (dz_c a1)), dz_I 0, .ref 120]) rfl rfl ?_
            refine wq_2 (i := .iadd) (z := 0 + (Z 114 16 (dz_c a1))) (pc' := 176) rfl rfl (op_add _ _) rfl ?_
            refine wp_s (i := .iconst 2) (n := 1) (pc' := 177) (st' := [dz_I 2, dz_I (0 + (Z 114 16 (dz_c a1))), .ref 120]) rfl rfl ?_
            obtain ⟨k70, H⟩ := dz_ck H
            refine wq_is (j' := dz_c (0 + (Z 114 16 (dz_c a1)))) (x := 2) (pc' := 178) rfl ha_M_11 rfl k70.1 k70.2 rfl (fun Z71 eZ71 => ?_)
            replace H := dz_le H Z71 eZ71
            clear eZ71
            refine wp_s (i := .goto 106) (n := 3) (pc' := 284) (st' := []) rfl rfl ?_
            replace H := dz_sm H
            exact H
        · replace H := dz_if c46 H
          refine wp_s (i := .aload_n 0) (n := 1) (pc' := 65) (st' := [.ref 114]) rfl rfl ?_
          refine wq_gr (idx := 28) (a := 121) (pc' := 68) rfl rfl ho_M rfl rfl ?_
          refine wp_s (i := .iconst 2) (n := 1) (pc' := 69) (st' := [dz_I 2, .ref 121]) rfl rfl ?_
          refine wp_s (i := .iload_n 2) (n := 1) (pc' := 70) (st' := [dz_I (Z 114 16 (dz_c a1)), dz_I 2, .ref 121]) rfl rfl ?_
          refine wq_2 (i := .imul) (z := 2 * (Z 114 16 (dz_c a1))) (pc' := 71) rfl rfl (op_mul _ _) rfl ?_
          refine wp_s (i := .aload_n 0) (n := 1) (pc' := 72) (st' := [.ref 114, dz_I (2 * (Z 114 16 (dz_c a1))), .ref 121]) rfl rfl ?_
          refine wp_s (i := .iconst 1) (n := 1) (pc' := 73) (st' := [dz_I 1, .ref 114, dz_I (2 * (Z 114 16 (dz_c a1))), .ref 121]) rfl rfl ?_
          refine wp_s (i := .bipush 9) (n := 2) (pc' := 75) (st' := [dz_I 9, dz_I 1, .ref 114, dz_I (2 * (Z 114 16 (dz_c a1))), .ref 121]) rfl rfl ?_
          refine wq_cv (Dq := (D + 3)) (r' := mm_r128) (as0 := [dz_I 1, dz_I 9]) (rest := [dz_I (2 * (Z 114 16 (dz_c a1))), .ref 121]) (ls' := [some (.ref 114), some (dz_I 1), some (dz_I 9), none]) (pc' := 78) rfl rfl rfl rfl ho_M rfl rfl rfl ?_
          refine jw_M_number (X := X) (D := D + 1) 1 9 q8 (dz_pm (dz_bi H) (fun q72 H => ?_))
          show mm_Wp X (D + 4) mm_r132 78 [some (.ref 114), some (dz_I a1), some (dz_I (Z 114 16 (dz_c a1))), some (dz_I q6)] [dz_I q72.1, dz_I (2 * (Z 114 16 (dz_c a1))), .ref 121] (hz_0 q72.2) Q
          obtain ⟨k73, H⟩ := dz_ck H
          refine wq_is (j' := dz_c (2 * (Z 114 16 (dz_c a1)))) (x := q72.1) (pc' := 79) rfl ha_M_12 rfl k73.1 k73.2 rfl (fun Z74 eZ74 => ?_)
          replace H := dz_le H Z74 eZ74
          clear eZ74
          refine wp_s (i := .aload_n 0) (n := 1) (pc' := 80) (st' := [.ref 114]) rfl rfl ?_
          refine wq_gr (idx := 28) (a := 121) (pc' := 83) rfl rfl ho_M rfl rfl ?_
          refine wp_s (i := .iconst 2) (n := 1) (pc' := 84) (st' := [dz_I 2, .ref 121]) rfl rfl ?_
          refine wp_s (i := .iload_n 2) (n := 1) (pc' := 85) (st' := [dz_I (Z 114 16 (dz_c a1)), dz_I 2, .ref 121]) rfl rfl ?_
          refine wq_2 (i := .imul) (z := 2 * (Z 114 16 (dz_c a1))) (pc' := 86) rfl rfl (op_mul _ _) rfl ?_
          refine wp_s (i := .iconst 1) (n := 1) (pc' := 87) (st' := [dz_I 1, dz_I (2 * (Z 114 16 (dz_c a1))), .ref 121]) rfl rfl ?_
          refine wq_2 (i := .iadd) (z := (2 * (Z 114 16 (dz_c a1))) + 1) (pc' := 88) rfl rfl (op_add _ _) rfl ?_
          refine wp_s (i := .aload_n 0) (n := 1) (pc' := 89) (st' := [.ref 114, dz_I ((2 * (Z 114 16 (dz_c a1))) + 1), .ref 121]) rfl rfl ?_
          refine wp_s (i := .iconst 0) (n := 1) (pc' := 90) (st' := [dz_I 0, .ref 114, dz_I ((2 * (Z 114 16 (dz_c a1))) + 1), .ref 121]) rfl rfl ?_
          refine wp_s (i := .iconst 4) (n := 1) (pc' := 91) (st' := [dz_I 4, dz_I 0, .ref 114, dz_I ((2 * (Z 114 16 (dz_c a1))) + 1), .ref 121]) rfl rfl ?_
          refine wq_cv (Dq := (D + 3)) (r' := mm_r128) (as0 := [dz_I 0, dz_I 4]) (rest := [dz_I ((2 * (Z 114 16 (dz_c a1))) + 1), .ref 121]) (ls' := [some (.ref 114), some (dz_I 0), some (dz_I 4), none]) (pc' := 94) rfl rfl rfl rfl ho_M rfl rfl rfl ?_
          refine jw_M_number (X := X) (D := D + 1) 0 4 Z74 (dz_pm (dz_bi H) (fun q75 H => ?_))
          show mm_Wp X (D + 4) mm_r132 94 [some (.ref 114), some (dz_I a1), some (dz_I (Z 114 16 (dz_c a1))), some (dz_I q6)] [dz_I q75.1, dz_I ((2 * (Z 114 16 (dz_c a1))) + 1), .ref 121] (hz_0 q75.2) Q
          obtain ⟨k76, H⟩ := dz_ck H
          refine wq_is (j' := dz_c ((2 * (Z 114 16 (dz_c a1))) + 1)) (x := q75.1) (pc' := 95) rfl ha_M_12 rfl k76.1 k76.2 rfl (fun Z77 eZ77 => ?_)
          replace H := dz_le H Z77 eZ77
          clear eZ77
          refine wp_s (i := .aload_n 0) (n := 1) (pc' := 96) (st' := [.ref 114]) rfl rfl ?_
          refine wp_s (i := .aload_n 0) (n := 1) (pc' := 97) (st' := [.ref 114, .ref 114]) rfl rfl ?_
          refine wq_gr (idx := 28) (a := 121) (pc' := 100) rfl rfl ho_M rfl rfl ?_
          refine wp_s (i := .iconst 2) (n := 1) (pc' := 101) (st' := [dz_I 2, .ref 121, .ref 114]) rfl rfl ?_
          refine wp_s (i := .iload_n 2) (n := 1) (pc' := 102) (st' := [dz_I (Z 114 16 (dz_c a1)), dz_I 2, .ref 121, .ref 114]) rfl rfl ?_
          refine wq_2 (i := .imul) (z := 2 * (Z 114 16 (dz_c a1))) (pc' := 103) rfl rfl (op_mul _ _) rfl ?_
          refine wp_s (i := .iconst 1) (n := 1) (pc' := 104) (st' := [dz_I 1, dz_I (2 * (Z 114 16 (dz_c a1))), .ref 121, .ref 114]) rfl rfl ?_
          refine wq_2 (i := .iadd) (z := (2 * (Z 114 16 (dz_c a1))) + 1) (pc' := 105) rfl rfl (op_add _ _) rfl ?_
          refine wq_ia (j' := dz_c ((2 * (Z 114 16 (dz_c a1))) + 1)) (pc' := 106) rfl ha_M_12 rfl k76.1 k76.2 rfl ?_
          refine wp_s (i := .aload_n 0) (n := 1) (pc' := 107) (st' := [.ref 114, dz_I (Z77 114 12 (dz_c ((2 * (Z 114 16 (dz_c a1))) + 1))), .ref 114]) rfl rfl ?_
          refine wq_gi (idx := 130) (pc' := 110) rfl rfl ho_M rfl rfl ?_
          refine wq_ic (p := dz_c (Z77 114 12 (dz_c ((2 * (Z 114 16 (dz_c a1))) + 1))) ≤ dz_c (Z77 114 18 0)) (tt := 126) (pc' := 113) rfl rfl (cq_le rfl rfl) rfl (fun c78 => ?_) (fun c78 => ?_)
          · replace H := dz_it c78 H
            refine wp_s (i := .aload_n 0) (n := 1) (pc' := 127) (st' := [.ref 114, .ref 114]) rfl rfl ?_
            refine wq_gi (idx := 130) (pc' := 130) rfl rfl ho_M rfl rfl ?_
            refine wq_pi (idx := 130) (x := Z77 114 18 0) (pc' := 133) rfl rfl rfl ho_M rfl rfl rfl rfl (fun Z79 eZ79 => ?_)
            replace H := dz_le H Z79 eZ79
            clear eZ79
            refine wp_s (i := .goto 151) (n := 3) (pc' := 284) (st' := []) rfl rfl ?_
            replace H := dz_sm H
            exact H
          · replace H := dz_if c78 H
            refine wp_s (i := .aload_n 0) (n := 1) (pc' := 114) (st' := [.ref 114, .ref 114]) rfl rfl ?_
            refine wq_gr (idx := 28) (a := 121) (pc' := 117) rfl rfl ho_M rfl rfl ?_
            refine wp_s (i := .iconst 2) (n := 1) (pc' := 118) (st' := [dz_I 2, .ref 121, .ref 114]) rfl rfl ?_
            refine wp_s (i := .iload_n 2) (n := 1) (pc' := 119) (st' := [dz_I (Z 114 16 (dz_c a1)), dz_I 2, .ref 121, .ref 114]) rfl rfl ?_
            refine wq_2 (i := .imul) (z := 2 * (Z 114 16 (dz_c a1))) (pc' := 120) rfl rfl (op_mul _ _) rfl ?_
            refine wp_s (i := .iconst 1) (n := 1) (pc' := 121) (st' := [dz_I 1, dz_I (2 * (Z 114 16 (dz_c a1))), .ref 121, .ref 114]) rfl rfl ?_
            refine wq_2 (i := .iadd) (z := (2 * (Z 114 16 (dz_c a1))) + 1) (pc' := 122) rfl rfl (op_add _ _) rfl ?_
            refine wq_ia (j' := dz_c ((2 * (Z 114 16 (dz_c a1))) + 1)) (pc' := 123) rfl ha_M_12 rfl k76.1 k76.2 rfl ?_
            refine wp_s (i := .goto 7) (n := 3) (pc' := 130) (st' := [dz_I (Z77 114 12 (dz_c ((2 * (Z 114 16 (dz_c a1))) + 1))), .ref 114]) rfl rfl ?_
            refine wq_pi (idx := 130) (x := Z77 114 12 (dz_c ((2 * (Z 114 16 (dz_c a1))) + 1))) (pc' := 133) rfl rfl rfl ho_M rfl rfl rfl rfl (fun Z80 eZ80 => ?_)
            replace H := dz_le H Z80 eZ80
            clear eZ80
            refine wp_s (i := .goto 151) (n := 3) (pc' := 284) (st' := []) rfl rfl ?_
            replace H := dz_sm H
            exact H
    · replace H := dz_if c7 H
      refine wp_s (i := .aload_n 0) (n := 1) (pc' := 51) (st' := [.ref 114]) rfl rfl ?_
      refine wp_s (i := .iconst 5) (n := 1) (pc' := 52) (st' := [dz_I 5, .ref 114]) rfl rfl ?_
      refine wq_cv (Dq := (D + 3)) (r' := mm_r124) (as0 := [dz_I 5]) (rest := []) (ls' := [some (.ref 114), some (dz_I 5)]) (pc' := 55) rfl rfl rfl rfl ho_M rfl rfl rfl ?_
      refine jw_M_fails (X := X) (D := D + 3) 5 Z (dz_pm (dz_bi H) (fun q81 H => ?_))
      show mm_Wp X (D + 4) mm_r132 55 [some (.ref 114), some (dz_I a1), some (dz_I (Z 114 16 (dz_c a1))), some (dz_I q6)] [] (hz_0 q81) Q
      refine wq_rv rfl rfl ?_
      replace H := dz_sm H
      exact H
  · skip
    refine wq_if (p := dz_c a1 ≠ 0) (tt := 15) (pc' := 11) rfl rfl (cz_ne rfl) rfl (fun c82 => ?_) (fun c82 => ?_)
    · replace H := dz_it c82 H
      refine wp_s (i := .iload_n 1) (n := 1) (pc' := 16) (st' := [dz_I a1]) rfl rfl ?_
      refine wp_s (i := .iconst 1) (n := 1) (pc' := 17) (st' := [dz_I 1, dz_I a1]) rfl rfl ?_
      refine wq_ic (p := dz_c a1 ≠ 1) (tt := 24) (pc' := 20) rfl rfl (cq_ne rfl dk_1) rfl (fun c83 => ?_) (fun c83 => ?_)
      · replace H := dz_it c83 H
        refine wp_s (i := .iload_n 1) (n := 1) (pc' := 25) (st' := [dz_I a1]) rfl rfl ?_
        refine wp_s (i := .iconst 2) (n := 1) (pc' := 26) (st' := [dz_I 2, dz_I a1]) rfl rfl ?_
        refine wq_ic (p := dz_c a1 ≠ 2) (tt := 34) (pc' := 29) rfl rfl (cq_ne rfl dk_2) rfl (fun c84 => ?_) (fun c84 => ?_)
        · replace H := dz_it c84 H
          refine wp_s (i := .iload_n 1) (n := 1) (pc' := 35) (st' := [dz_I a1]) rfl rfl ?_
          refine wp_s (i := .iconst 3) (n := 1) (pc' := 36) (st' := [dz_I 3, dz_I a1]) rfl rfl ?_
          refine wq_ic (p := dz_c a1 ≠ 3) (tt := 43) (pc' := 39) rfl rfl (cq_ne rfl dk_3) rfl (fun c85 => ?_) (fun c85 => ?_)
          · replace H := dz_it c85 H
            refine wp_s (i := .iconst 4) (n := 1) (pc' := 44) (st' := [dz_I 4]) rfl rfl ?_
            replace H := dz_sm H
            exact H
          · replace H := dz_if c85 H
            refine wp_s (i := .iconst 3) (n := 1) (pc' := 40) (st' := [dz_I 3]) rfl rfl ?_
            refine wp_s (i := .goto 4) (n := 3) (pc' := 44) (st' := [dz_I 3]) rfl rfl ?_
            replace H := dz_sm H
            exact H
        · replace H := dz_if c84 H
          refine wp_s (i := .bipush 8) (n := 2) (pc' := 31) (st' := [dz_I 8]) rfl rfl ?_
          refine wp_s (i := .goto 13) (n := 3) (pc' := 44) (st' := [dz_I 8]) rfl rfl ?_
          replace H := dz_sm H
          exact H
      · replace H := dz_if c83 H
        refine wp_s (i := .iconst 5) (n := 1) (pc' := 21) (st' := [dz_I 5]) rfl rfl ?_
        refine wp_s (i := .goto 23) (n := 3) (pc' := 44) (st' := [dz_I 5]) rfl rfl ?_
        replace H := dz_sm H
        exact H
    · replace H := dz_if c82 H
      refine wp_s (i := .iconst 4) (n := 1) (pc' := 12) (st' := [dz_I 4]) rfl rfl ?_
      refine wp_s (i := .goto 32) (n := 3) (pc' := 44) (st' := [dz_I 4]) rfl rfl ?_
      replace H := dz_sm H
      exact H
-- 133
def jf_M_readLine (Z : dz_Z) : Option (dz_Z) := Option.bind (jf_M_nameHere Z) fun q1 => if 0 ≤ dz_c q1 ∧ dz_c q1 ≤ 6 then (Option.bind (α := dz_Z) (if 4 < dz_c q1 then (Option.bind (α := dz_Z) (if dz_c (dz_an (dz_sr (Z 114 20 0) q1) 1) ≠ 1 then (some Z) else (Option.bind (jf_M_fails 4 Z) fun q36 => some q36)) (fun (q28 : dz_Z) => dz_a (dz_u q28 114 20 0 (dz_or (q28 114 20 0) (dz_sl 1 q1))) fun Z29 => Option.bind (jf_M_step Z29) fun q30 => if dz_c q1 ≠ 5 then (Option.bind (jf_M_number 0 999 q30) fun q32 => dz_a (dz_u q32.2 114 17 0 q32.1) fun Z33 => some Z33) else (Option.bind (jf_M_readSeconds 73 255 q30) fun q34 => some q34))) else (Option.bind (jf_M_readThing q1 Z) fun q37 => some q37)) (fun (q16 : dz_Z) => Option.bind (α := dz_Z) (if dz_c (q16 114 24 0) ≠ 0 then (some q16) else (if dz_c (q16 114 28 0) = 3 then (some q16) else (Option.bind (jf_M_fails 2 q16) fun q24 => some q24))) (fun (q20 : dz_Z) => Option.bind (jf_M_step q20) fun q21 => some q21))) else (Option.bind (jf_M_fails 2 Z) fun q38 => some q38)
set_option maxRecDepth 20000 in
theorem jw_M_readLine {X : Option (List Int32)} {D : Nat} {Q : Option Value → mm_H → Prop} (Z : dz_Z) (H : dz_p (jf_M_readLine Z) (fun q => Q (none) (hz_0 q))) : mm_Wp X (D + 5) mm_r133 0 [some (.ref 114), none] [] (hz_0 Z) Q := by
  unfold jf_M_readLine at H
  refine wp_s (i := .aload_n 0) (n := 1) (pc' := 1) (st' := [.ref 114]) rfl rfl ?_
  refine wq_cv (Dq := (D + 4)) (r' := mm_r125) (as0 := []) (rest := []) (ls' := [some (.ref 114), none, none, none]) (pc' := 4) rfl rfl rfl rfl ho_M rfl rfl rfl ?_
  refine jw_M_nameHere (X := X) (D := D + 3) Z (dz_pm (dz_bi H) (fun q1 H => ?_))
  show mm_Wp X (D + 5) mm_r133 4 [some (.ref 114), none] [dz_I q1] (hz_0 Z) Q
  refine wq_st (k := 1) (i := .istore_n 1) (n := 1) (ls' := [some (.ref 114), some (dz_I q1)]) (pc' := 5) rfl rfl rfl rfl rfl ?_
  refine wp_s (i := .iload_n 1) (n := 1) (pc' := 6) (st' := [dz_I q1]) rfl rfl ?_
  refine wq_3 (i := .i2l) (v' := dz_J (dz_c q1)) (pc' := 7) rfl rfl (oq_i2l' rfl) rfl ?_
  refine wp_s (i := .lconst 0) (n := 1) (pc' := 8) (st' := [dz_J 0, dz_J (dz_c q1)]) rfl rfl ?_
  refine wp_s (i := .ldc2_w 153) (n := 3) (pc' := 11) (st' := [dz_J 6, dz_J 0, dz_J (dz_c q1)]) rfl rfl ?_
  refine wq_cs (Dq := (D + 4)) (r' := mm_r120) (as0 := [dz_J (dz_c q1), dz_J 0, dz_J 6]) (rest := []) (ls' := [some (dz_J (dz_c q1)), none, some (dz_J 0), none, some (dz_J 6), none]) (pc' := 14) rfl rfl (by decide) rfl rfl rfl rfl rfl ?_
  refine jw_in (a' := dz_c q1) (b' := 0) (c' := 6) (dz_lc _) (by decide) (by decide) ?_
  show mm_Wp X (D + 5) mm_r133 14 [some (.ref 114), some (dz_I q1)] [dz_B (decide (0 ≤ dz_c q1 ∧ dz_c q1 ≤ 6))] (hz_0 Z) Q
  refine wq_if (p := 0 ≤ dz_c q1 ∧ dz_c q1 ≤ 6) (tt := 23) (pc' := 17) rfl rfl (cd_ne) rfl (fun c2 => ?_) (fun c2 => ?_)
  · replace H := dz_it c2 H
    refine wp_s (i := .iload_n 1) (n := 1) (pc' := 24) (st' := [dz_I q1]) rfl rfl ?_
    refine wp_s (i := .iconst 4) (n := 1) (pc' := 25) (st' := [dz_I 4, dz_I q1]) rfl rfl ?_
    refine dz_jn (P := fun (q16 : dz_Z) => mm_Wp X (D + 5) mm_r133 98 [some (.ref 114), some (dz_I q1)] [] (hz_0 q16) Q) (dz_bi H) (fun q16 H => ?_) (fun H => ?_)
    · skip
      refine wp_s (i := .aload_n 0) (n := 1) (pc' := 99) (st' := [.ref 114]) rfl rfl ?_
      refine wq_gi (idx := 85) (pc' := 102) rfl rfl ho_M rfl rfl ?_
      refine dz_jn (P := fun (q20 : dz_Z) => mm_Wp X (D + 5) mm_r133 118 [some (.ref 114), some (dz_I q1)] [] (hz_0 q20) Q) (dz_bi H) (fun q20 H => ?_) (fun H => ?_)
      · skip
        refine wp_s (i := .aload_n 0) (n := 1) (pc' := 119) (st' := [.ref 114]) rfl rfl ?_
        refine wq_cv (Dq := (D + 4)) (r' := mm_r126) (as0 := []) (rest := []) (ls' := [some (.ref 114), none]) (pc' := 122) rfl rfl rfl rfl ho_M rfl rfl rfl ?_
        refine jw_M_step (X := X) (D := D + 3) q20 (dz_pm (dz_bi H) (fun q21 H => ?_))
        show mm_Wp X (D + 5) mm_r133 122 [some (.ref 114), some (dz_I q1)] [] (hz_0 q21) Q
        refine wq_rv rfl rfl ?_
        replace H := dz_sm H
        exact H
      · skip
        refine wq_if (p := dz_c (q16 114 24 0) ≠ 0) (tt := 118) (pc' := 105) rfl rfl (cz_ne rfl) rfl (fun c22 => ?_) (fun c22 => ?_)
        · replace H := dz_it c22 H
          replace H := dz_sm H
          exact H
        · replace H := dz_if c22 H
          refine wp_s (i := .aload_n 0) (n := 1) (pc' := 106) (st' := [.ref 114]) rfl rfl ?_
          refine wq_gi (idx := 94) (pc' := 109) rfl rfl ho_M rfl rfl ?_
          refine wp_s (i := .iconst 3) (n := 1) (pc' := 110) (st' := [dz_I 3, dz_I (q16 114 28 0)]) rfl rfl ?_
          refine wq_ic (p := dz_c (q16 114 28 0) = 3) (tt := 118) (pc' := 113) rfl rfl (cq_eq rfl dk_3) rfl (fun c23 => ?_) (fun c23 => ?_)
          · replace H := dz_it c23 H
            replace H := dz_sm H
            exact H
          · replace H := dz_if c23 H
            refine wp_s (i := .aload_n 0) (n := 1) (pc' := 114) (st' := [.ref 114]) rfl rfl ?_
            refine wp_s (i := .iconst 2) (n := 1) (pc' := 115) (st' := [dz_I 2, .ref 114]) rfl rfl ?_
            refine wq_cv (Dq := (D + 4)) (r' := mm_r124) (as0 := [dz_I 2]) (rest := []) (ls' := [some (.ref 114), some (dz_I 2)]) (pc' := 118) rfl rfl rfl rfl ho_M rfl rfl rfl ?_
            refine jw_M_fails (X := X) (D := D + 4) 2 q16 (dz_pm (dz_bi H) (fun q24 H => ?_))
            show mm_Wp X (D + 5) mm_r133 118 [some (.ref 114), some (dz_I q1)] [] (hz_0 q24) Q
            replace H := dz_sm H
            exact H
    · skip
      refine wq_ic (p := 4 < dz_c q1) (tt := 36) (pc' := 28) rfl rfl (cq_gt rfl dk_4) rfl (fun c25 => ?_) (fun c25 => ?_)
      · replace H := dz_it c25 H
        refine wp_s (i := .aload_n 0) (n := 1) (pc' := 37) (st' := [.ref 114]) rfl rfl ?_
        refine wq_gi (idx := 158) (pc' := 40) rfl rfl ho_M rfl rfl ?_
        refine wp_s (i := .iload_n 1) (n := 1) (pc' := 41) (st' := [dz_I q1, dz_I (Z 114 20 0)]) rfl rfl ?_
        refine wq_2 (i := .ishr) (z := dz_sr (Z 114 20 0) q1) (pc' := 42) rfl rfl (op_shr _ _) rfl ?_
        refine wp_s (i := .iconst 1) (n := 1) (pc' := 43) (st' := [dz_I 1, dz_I (dz_sr (Z 114 20 0) q1)]) rfl rfl ?_
        refine wq_2 (i := .iand) (z := dz_an (dz_sr (Z 114 20 0) q1) 1) (pc' := 44) rfl rfl (op_and _ _) rfl ?_
        refine wp_s (i := .iconst 1) (n := 1) (pc' := 45) (st' := [dz_I 1, dz_I (dz_an (dz_sr (Z 114 20 0) q1) 1)]) rfl rfl ?_
        refine dz_jn (P := fun (q28 : dz_Z) => mm_Wp X (D + 5) mm_r133 53 [some (.ref 114), some (dz_I q1)] [] (hz_0 q28) Q) (dz_bi H) (fun q28 H => ?_) (fun H => ?_)
        · skip
          refine wp_s (i := .aload_n 0) (n := 1) (pc' := 54) (st' := [.ref 114]) rfl rfl ?_
          refine wp_s (i := .dup) (n := 1) (pc' := 55) (st' := [.ref 114, .ref 114]) rfl rfl ?_
          refine wq_gi (idx := 158) (pc' := 58) rfl rfl ho_M rfl rfl ?_
          refine wp_s (i := .iconst 1) (n := 1) (pc' := 59) (st' := [dz_I 1, dz_I (q28 114 20 0), .ref 114]) rfl rfl ?_
          refine wp_s (i := .iload_n 1) (n := 1) (pc' := 60) (st' := [dz_I q1, dz_I 1, dz_I (q28 114 20 0), .ref 114]) rfl rfl ?_
          refine wq_2 (i := .ishl) (z := dz_sl 1 q1) (pc' := 61) rfl rfl (op_shl _ _) rfl ?_
          refine wq_2 (i := .ior) (z := dz_or (q28 114 20 0) (dz_sl 1 q1)) (pc' := 62) rfl rfl (op_or _ _) rfl ?_
          refine wq_pi (idx := 158) (x := dz_or (q28 114 20 0) (dz_sl 1 q1)) (pc' := 65) rfl rfl rfl ho_M rfl rfl rfl rfl (fun Z29 eZ29 => ?_)
          replace H := dz_le H Z29 eZ29
          clear eZ29
          refine wp_s (i := .aload_n 0) (n := 1) (pc' := 66) (st' := [.ref 114]) rfl rfl ?_
          refine wq_cv (Dq := (D + 4)) (r' := mm_r126) (as0 := []) (rest := []) (ls' := [some (.ref 114), none]) (pc' := 69) rfl rfl rfl rfl ho_M rfl rfl rfl ?_
          refine jw_M_step (X := X) (D := D + 3) Z29 (dz_pm (dz_bi H) (fun q30 H => ?_))
          show mm_Wp X (D + 5) mm_r133 69 [some (.ref 114), some (dz_I q1)] [] (hz_0 q30) Q
          refine wp_s (i := .iload_n 1) (n := 1) (pc' := 70) (st' := [dz_I q1]) rfl rfl ?_
          refine wp_s (i := .iconst 5) (n := 1) (pc' := 71) (st' := [dz_I 5, dz_I q1]) rfl rfl ?_
          refine wq_ic (p := dz_c q1 ≠ 5) (tt := 86) (pc' := 74) rfl rfl (cq_ne rfl dk_5) rfl (fun c31 => ?_) (fun c31 => ?_)
          · replace H := dz_it c31 H
            refine wp_s (i := .aload_n 0) (n := 1) (pc' := 87) (st' := [.ref 114]) rfl rfl ?_
            refine wp_s (i := .aload_n 0) (n := 1) (pc' := 88) (st' := [.ref 114, .ref 114]) rfl rfl ?_
            refine wp_s (i := .iconst 0) (n := 1) (pc' := 89) (st' := [dz_I 0, .ref 114, .ref 114]) rfl rfl ?_
            refine wp_s (i := .sipush 999) (n := 3) (pc' := 92) (st' := [dz_I 999, dz_I 0, .ref 114, .ref 114]) rfl rfl ?_
            refine wq_cv (Dq := (D + 4)) (r' := mm_r128) (as0 := [dz_I 0, dz_I 999]) (rest := [.ref 114]) (ls' := [some (.ref 114), some (dz_I 0), some (dz_I 999), none]) (pc' := 95) rfl rfl rfl rfl ho_M rfl rfl rfl ?_
            refine jw_M_number (X := X) (D := D + 2) 0 999 q30 (dz_pm (dz_bi H) (fun q32 H => ?_))
            show mm_Wp X (D + 5) mm_r133 95 [some (.ref 114), some (dz_I q1)] [dz_I q32.1, .ref 114] (hz_0 q32.2) Q
            refine wq_pi (idx := 161) (x := q32.1) (pc' := 98) rfl rfl rfl ho_M rfl rfl rfl rfl (fun Z33 eZ33 => ?_)
            replace H := dz_le H Z33 eZ33
            clear eZ33
            replace H := dz_sm H
            exact H
          · replace H := dz_if c31 H
            refine wp_s (i := .aload_n 0) (n := 1) (pc' := 75) (st' := [.ref 114]) rfl rfl ?_
            refine wp_s (i := .bipush 73) (n := 2) (pc' := 77) (st' := [dz_I 73, .ref 114]) rfl rfl ?_
            refine wp_s (i := .sipush 255) (n := 3) (pc' := 80) (st' := [dz_I 255, dz_I 73, .ref 114]) rfl rfl ?_
            refine wq_cv (Dq := (D + 4)) (r' := mm_r131) (as0 := [dz_I 73, dz_I 255]) (rest := []) (ls' := [some (.ref 114), some (dz_I 73), some (dz_I 255), none, none]) (pc' := 83) rfl rfl rfl rfl ho_M rfl rfl rfl ?_
            refine jw_M_readSeconds (X := X) (D := D + 1) 73 255 q30 (dz_pm (dz_bi H) (fun q34 H => ?_))
            show mm_Wp X (D + 5) mm_r133 83 [some (.ref 114), some (dz_I q1)] [] (hz_0 q34) Q
            refine wp_s (i := .goto 15) (n := 3) (pc' := 98) (st' := []) rfl rfl ?_
            replace H := dz_sm H
            exact H
        · skip
          refine wq_ic (p := dz_c (dz_an (dz_sr (Z 114 20 0) q1) 1) ≠ 1) (tt := 53) (pc' := 48) rfl rfl (cq_ne rfl dk_1) rfl (fun c35 => ?_) (fun c35 => ?_)
          · replace H := dz_it c35 H
            replace H := dz_sm H
            exact H
          · replace H := dz_if c35 H
            refine wp_s (i := .aload_n 0) (n := 1) (pc' := 49) (st' := [.ref 114]) rfl rfl ?_
            refine wp_s (i := .iconst 4) (n := 1) (pc' := 50) (st' := [dz_I 4, .ref 114]) rfl rfl ?_
            refine wq_cv (Dq := (D + 4)) (r' := mm_r124) (as0 := [dz_I 4]) (rest := []) (ls' := [some (.ref 114), some (dz_I 4)]) (pc' := 53) rfl rfl rfl rfl ho_M rfl rfl rfl ?_
            refine jw_M_fails (X := X) (D := D + 4) 4 Z (dz_pm (dz_bi H) (fun q36 H => ?_))
            show mm_Wp X (D + 5) mm_r133 53 [some (.ref 114), some (dz_I q1)] [] (hz_0 q36) Q
            replace H := dz_sm H
            exact H
      · replace H := dz_if c25 H
        refine wp_s (i := .aload_n 0) (n := 1) (pc' := 29) (st' := [.ref 114]) rfl rfl ?_
        refine wp_s (i := .iload_n 1) (n := 1) (pc' := 30) (st' := [dz_I q1, .ref 114]) rfl rfl ?_
        refine wq_cv (Dq := (D + 4)) (r' := mm_r132) (as0 := [dz_I q1]) (rest := []) (ls' := [some (.ref 114), some (dz_I q1), none, none]) (pc' := 33) rfl rfl rfl rfl ho_M rfl rfl rfl ?_
        refine jw_M_readThing (X := X) (D := D + 0) q1 Z (dz_pm (dz_bi H) (fun q37 H => ?_))
        show mm_Wp X (D + 5) mm_r133 33 [some (.ref 114), some (dz_I q1)] [] (hz_0 q37) Q
        refine wp_s (i := .goto 65) (n := 3) (pc' := 98) (st' := []) rfl rfl ?_
        replace H := dz_sm H
        exact H
  · replace H := dz_if c2 H
    refine wp_s (i := .aload_n 0) (n := 1) (pc' := 18) (st' := [.ref 114]) rfl rfl ?_
    refine wp_s (i := .iconst 2) (n := 1) (pc' := 19) (st' := [dz_I 2, .ref 114]) rfl rfl ?_
    refine wq_cv (Dq := (D + 4)) (r' := mm_r124) (as0 := [dz_I 2]) (rest := []) (ls' := [some (.ref 114), some (dz_I 2)]) (pc' := 22) rfl rfl rfl rfl ho_M rfl rfl rfl ?_
    refine jw_M_fails (X := X) (D := D + 4) 2 Z (dz_pm (dz_bi H) (fun q38 H => ?_))
    show mm_Wp X (D + 5) mm_r133 22 [some (.ref 114), some (dz_I q1)] [] (hz_0 q38) Q
    refine wq_rv rfl rfl ?_
    replace H := dz_sm H
    exact H
-- 134
def jf_M_takes (Z : dz_Z) : Option (dz_Z) := dz_lp (fun (s1 : Int × dz_Z) => if 140 ≤ dz_c s1.1 then (dz_lp (fun (s3 : Int × dz_Z) => if 12 ≤ dz_c s3.1 then (dz_a (dz_u s3.2 114 1 0 (s3.2 114 16 0)) fun Z5 => dz_a (dz_u Z5 114 2 0 (Z5 114 16 1)) fun Z6 => dz_a (dz_u Z6 114 3 0 (Z6 114 16 2)) fun Z7 => dz_a (dz_u Z7 114 4 0 (Z7 114 16 3)) fun Z8 => dz_a (dz_u Z8 114 5 0 (Z8 114 16 4)) fun Z9 => dz_a (dz_u Z9 114 6 0 (Z9 114 17 0)) fun Z10 => dz_a (dz_u Z10 114 41 0 0) fun Z11 => dz_a (dz_u Z11 114 41 1 0) fun Z12 => some (Sum.inr (Sum.inr Z12))) else (if 0 ≤ dz_c (Int.tmod (dz_c s3.1) 8) ∧ dz_c (Int.tmod (dz_c s3.1) 8) < 8 then dz_a (dz_u s3.2 114 7 (dz_c (Int.tmod (dz_c s3.1) 8)) (s3.2 114 12 (dz_c (Int.tmod (dz_c s3.1) 8)))) fun Z14 => if 0 ≤ dz_c (Int.tmod (dz_c s3.1) 10) ∧ dz_c (Int.tmod (dz_c s3.1) 10) < 10 then dz_a (dz_u Z14 114 8 (dz_c (Int.tmod (dz_c s3.1) 10)) (Z14 114 13 (dz_c (Int.tmod (dz_c s3.1) 10)))) fun Z16 => dz_a (dz_u Z16 114 9 (dz_c (Int.tmod (dz_c s3.1) 8)) (Z16 114 14 (dz_c (Int.tmod (dz_c s3.1) 8)))) fun Z17 => if 0 ≤ dz_c s3.1 ∧ dz_c s3.1 < 12 then dz_a (dz_u Z17 114 10 (dz_c s3.1) (Z17 114 15 (dz_c s3.1))) fun Z19 => some (Sum.inl (s3.1 + 1, Z19)) else none else none else none)) 5000 (0, s1.2)) else (if 0 ≤ dz_c s1.1 ∧ dz_c s1.1 < 140 then if 0 ≤ dz_c s1.1 ∧ dz_c s1.1 < 700 then dz_a (dz_u s1.2 114 0 (dz_c s1.1) (s1.2 114 11 (dz_c s1.1))) fun Z22 => some (Sum.inl (s1.1 + 1, Z22)) else none else none)) 5000 (0, Z)
set_option maxRecDepth 20000 in
theorem jw_M_takes {X : Option (List Int32)} {D : Nat} {Q : Option Value → mm_H → Prop} (Z : dz_Z) (H : dz_p (jf_M_takes Z) (fun q => Q (none) (hz_0 q))) : mm_Wp X D mm_r134 0 [some (.ref 114), none] [] (hz_0 Z) Q := by
  unfold jf_M_takes at H
  refine wp_s (i := .iconst 0) (n := 1) (pc' := 1) (st' := [dz_I 0]) rfl rfl ?_
  refine wq_st (k := 1) (i := .istore_n 1) (n := 1) (ls' := [some (.ref 114), some (dz_I 0)]) (pc' := 2) rfl rfl rfl rfl rfl ?_
  refine dz_lpi (P := fun (s1 : Int × dz_Z) => mm_Wp X D mm_r134 2 [some (.ref 114), some (dz_I s1.1)] [] (hz_0 s1.2) Q) (fun s1 H => ?_) 5000 (0, Z) H
  refine wp_s (i := .iload_n 1) (n := 1) (pc' := 3) (st' := [dz_I s1.1]) rfl rfl ?_
  refine wp_s (i := .sipush 140) (n := 3) (pc' := 6) (st' := [dz_I 140, dz_I s1.1]) rfl rfl ?_
  refine wq_ic (p := 140 ≤ dz_c s1.1) (tt := 27) (pc' := 9) rfl rfl (cq_ge rfl dk_140) rfl (fun c2 => ?_) (fun c2 => ?_)
  · replace H := dz_it c2 H
    refine wp_s (i := .iconst 0) (n := 1) (pc' := 28) (st' := [dz_I 0]) rfl rfl ?_
    refine wq_st (k := 1) (i := .istore_n 1) (n := 1) (ls' := [some (.ref 114), some (dz_I 0)]) (pc' := 29) rfl rfl rfl rfl rfl ?_
    refine dz_lpi (P := fun (s3 : Int × dz_Z) => mm_Wp X D mm_r134 29 [some (.ref 114), some (dz_I s3.1)] [] (hz_0 s3.2) Q) (fun s3 H => ?_) 5000 (0, s1.2) H
    refine wp_s (i := .iload_n 1) (n := 1) (pc' := 30) (st' := [dz_I s3.1]) rfl rfl ?_
    refine wp_s (i := .bipush 12) (n := 2) (pc' := 32) (st' := [dz_I 12, dz_I s3.1]) rfl rfl ?_
    refine wq_ic (p := 12 ≤ dz_c s3.1) (tt := 107) (pc' := 35) rfl rfl (cq_ge rfl dk_12) rfl (fun c4 => ?_) (fun c4 => ?_)
    · replace H := dz_it c4 H
      refine wp_s (i := .aload_n 0) (n := 1) (pc' := 108) (st' := [.ref 114]) rfl rfl ?_
      refine wp_s (i := .aload_n 0) (n := 1) (pc' := 109) (st' := [.ref 114, .ref 114]) rfl rfl ?_
      refine wq_gr (idx := 40) (a := 125) (pc' := 112) rfl rfl ho_M rfl rfl ?_
      refine wp_s (i := .iconst 0) (n := 1) (pc' := 113) (st' := [dz_I 0, .ref 125, .ref 114]) rfl rfl ?_
      refine wq_ia (j' := 0) (pc' := 114) rfl ha_M_16 dk_0 (by decide) (by decide) rfl ?_
      refine wq_pi (idx := 164) (x := s3.2 114 16 0) (pc' := 117) rfl rfl rfl ho_M rfl rfl rfl rfl (fun Z5 eZ5 => ?_)
      replace H := dz_le H Z5 eZ5
      clear eZ5
      refine wp_s (i := .aload_n 0) (n := 1) (pc' := 118) (st' := [.ref 114]) rfl rfl ?_
      refine wp_s (i := .aload_n 0) (n := 1) (pc' := 119) (st' := [.ref 114, .ref 114]) rfl rfl ?_
      refine wq_gr (idx := 40) (a := 125) (pc' := 122) rfl rfl ho_M rfl rfl ?_
      refine wp_s (i := .iconst 1) (n := 1) (pc' := 123) (st' := [dz_I 1, .ref 125, .ref 114]) rfl rfl ?_
      refine wq_ia (j' := 1) (pc' := 124) rfl ha_M_16 dk_1 (by decide) (by decide) rfl ?_
      refine wq_pi (idx := 167) (x := Z5 114 16 1) (pc' := 127) rfl rfl rfl ho_M rfl rfl rfl rfl (fun Z6 eZ6 => ?_)
      replace H := dz_le H Z6 eZ6
      clear eZ6
      refine wp_s (i := .aload_n 0) (n := 1) (pc' := 128) (st' := [.ref 114]) rfl rfl ?_
      refine wp_s (i := .aload_n 0) (n := 1) (pc' := 129) (st' := [.ref 114, .ref 114]) rfl rfl ?_
      refine wq_gr (idx := 40) (a := 125) (pc' := 132) rfl rfl ho_M rfl rfl ?_
      refine wp_s (i := .iconst 2) (n := 1) (pc' := 133) (st' := [dz_I 2, .ref 125, .ref 114]) rfl rfl ?_
      refine wq_ia (j' := 2) (pc' := 134) rfl ha_M_16 dk_2 (by decide) (by decide) rfl ?_
      refine wq_pi (idx := 170) (x := Z6 114 16 2) (pc' := 137) rfl rfl rfl ho_M rfl rfl rfl rfl (fun Z7 eZ7 => ?_)
      replace H := dz_le H Z7 eZ7
      clear eZ7
      refine wp_s (i := .aload_n 0) (n := 1) (pc' := 138) (st' := [.ref 114]) rfl rfl ?_
      refine wp_s (i := .aload_n 0) (n := 1) (pc' := 139) (st' := [.ref 114, .ref 114]) rfl rfl ?_
      refine wq_gr (idx := 40) (a := 125) (pc' := 142) rfl rfl ho_M rfl rfl ?_
      refine wp_s (i := .iconst 3) (n := 1) (pc' := 143) (st' := [dz_I 3, .ref 125, .ref 114]) rfl rfl ?_
      refine wq_ia (j' := 3) (pc' := 144) rfl ha_M_16 dk_3 (by decide) (by decide) rfl ?_
      refine wq_pi (idx := 173) (x := Z7 114 16 3) (pc' := 147) rfl rfl rfl ho_M rfl rfl rfl rfl (fun Z8 eZ8 => ?_)
      replace H := dz_le H Z8 eZ8
      clear eZ8
      refine wp_s (i := .aload_n 0) (n := 1) (pc' := 148) (st' := [.ref 114]) rfl rfl ?_
      refine wp_s (i := .aload_n 0) (n := 1) (pc' := 149) (st' := [.ref 114, .ref 114]) rfl rfl ?_
      refine wq_gr (idx := 40) (a := 125) (pc' := 152) rfl rfl ho_M rfl rfl ?_
      refine wp_s (i := .iconst 4) (n := 1) (pc' := 153) (st' := [dz_I 4, .ref 125, .ref 114]) rfl rfl ?_
      refine wq_ia (j' := 4) (pc' := 154) rfl ha_M_16 dk_4 (by decide) (by decide) rfl ?_
      refine wq_pi (idx := 176) (x := Z8 114 16 4) (pc' := 157) rfl rfl rfl ho_M rfl rfl rfl rfl (fun Z9 eZ9 => ?_)
      replace H := dz_le H Z9 eZ9
      clear eZ9
      refine wp_s (i := .aload_n 0) (n := 1) (pc' := 158) (st' := [.ref 114]) rfl rfl ?_
      refine wp_s (i := .aload_n 0) (n := 1) (pc' := 159) (st' := [.ref 114, .ref 114]) rfl rfl ?_
      refine wq_gi (idx := 161) (pc' := 162) rfl rfl ho_M rfl rfl ?_
      refine wq_pi (idx := 179) (x := Z9 114 17 0) (pc' := 165) rfl rfl rfl ho_M rfl rfl rfl rfl (fun Z10 eZ10 => ?_)
      replace H := dz_le H Z10 eZ10
      clear eZ10
      refine wp_s (i := .aload_n 0) (n := 1) (pc' := 166) (st' := [.ref 114]) rfl rfl ?_
      refine wq_gr (idx := 64) (a := 133) (pc' := 169) rfl rfl ho_M rfl rfl ?_
      refine wp_s (i := .iconst 0) (n := 1) (pc' := 170) (st' := [dz_I 0, .ref 133]) rfl rfl ?_
      refine wp_s (i := .iconst 0) (n := 1) (pc' := 171) (st' := [dz_I 0, dz_I 0, .ref 133]) rfl rfl ?_
      refine wq_zs (j' := 0) (x := 0) (pc' := 172) rfl ha_M_41 rfl dk_0 (by decide) (by decide) rfl (fun Z11 eZ11 => ?_)
      replace H := dz_le H Z11 eZ11
      clear eZ11
      refine wp_s (i := .aload_n 0) (n := 1) (pc' := 173) (st' := [.ref 114]) rfl rfl ?_
      refine wq_gr (idx := 64) (a := 133) (pc' := 176) rfl rfl ho_M rfl rfl ?_
      refine wp_s (i := .iconst 1) (n := 1) (pc' := 177) (st' := [dz_I 1, .ref 133]) rfl rfl ?_
      refine wp_s (i := .iconst 0) (n := 1) (pc' := 178) (st' := [dz_I 0, dz_I 1, .ref 133]) rfl rfl ?_
      refine wq_zs (j' := 1) (x := 0) (pc' := 179) rfl ha_M_41 rfl dk_1 (by decide) (by decide) rfl (fun Z12 eZ12 => ?_)
      replace H := dz_le H Z12 eZ12
      clear eZ12
      refine wq_rv rfl rfl ?_
      replace H := dz_out H
      replace H := dz_out H
      replace H := dz_sm H
      exact H
    · replace H := dz_if c4 H
      refine wp_s (i := .aload_n 0) (n := 1) (pc' := 36) (st' := [.ref 114]) rfl rfl ?_
      refine wq_gr (idx := 13) (a := 116) (pc' := 39) rfl rfl ho_M rfl rfl ?_
      refine wp_s (i := .iload_n 1) (n := 1) (pc' := 40) (st' := [dz_I s3.1, .ref 116]) rfl rfl ?_
      refine wp_s (i := .bipush 8) (n := 2) (pc' := 42) (st' := [dz_I 8, dz_I s3.1, .ref 116]) rfl rfl ?_
      refine wq_2 (i := .irem) (z := Int.tmod (dz_c s3.1) 8) (pc' := 43) rfl rfl (op_rem rfl dk_8 (by decide)) rfl ?_
      refine wp_s (i := .aload_n 0) (n := 1) (pc' := 44) (st' := [.ref 114, dz_I (Int.tmod (dz_c s3.1) 8), .ref 116]) rfl rfl ?_
      refine wq_gr (idx := 28) (a := 121) (pc' := 47) rfl rfl ho_M rfl rfl ?_
      refine wp_s (i := .iload_n 1) (n := 1) (pc' := 48) (st' := [dz_I s3.1, .ref 121, dz_I (Int.tmod (dz_c s3.1) 8), .ref 116]) rfl rfl ?_
      refine wp_s (i := .bipush 8) (n := 2) (pc' := 50) (st' := [dz_I 8, dz_I s3.1, .ref 121, dz_I (Int.tmod (dz_c s3.1) 8), .ref 116]) rfl rfl ?_
      refine wq_2 (i := .irem) (z := Int.tmod (dz_c s3.1) 8) (pc' := 51) rfl rfl (op_rem rfl dk_8 (by decide)) rfl ?_
      obtain ⟨k13, H⟩ := dz_ck H
      refine wq_ia (j' := dz_c (Int.tmod (dz_c s3.1) 8)) (pc' := 52) rfl ha_M_12 rfl k13.1 k13.2 rfl ?_
      refine wq_is (j' := dz_c (Int.tmod (dz_c s3.1) 8)) (x := s3.2 114 12 (dz_c (Int.tmod (dz_c s3.1) 8))) (pc' := 53) rfl ha_M_7 rfl k13.1 k13.2 rfl (fun Z14 eZ14 => ?_)
      replace H := dz_le H Z14 eZ14
      clear eZ14
      refine wp_s (i := .aload_n 0) (n := 1) (pc' := 54) (st' := [.ref 114]) rfl rfl ?_
      refine wq_gr (idx := 16) (a := 117) (pc' := 57) rfl rfl ho_M rfl rfl ?_
      refine wp_s (i := .iload_n 1) (n := 1) (pc' := 58) (st' := [dz_I s3.1, .ref 117]) rfl rfl ?_
      refine wp_s (i := .bipush 10) (n := 2) (pc' := 60) (st' := [dz_I 10, dz_I s3.1, .ref 117]) rfl rfl ?_
      refine wq_2 (i := .irem) (z := Int.tmod (dz_c s3.1) 10) (pc' := 61) rfl rfl (op_rem rfl dk_10 (by decide)) rfl ?_
      refine wp_s (i := .aload_n 0) (n := 1) (pc' := 62) (st' := [.ref 114, dz_I (Int.tmod (dz_c s3.1) 10), .ref 117]) rfl rfl ?_
      refine wq_gr (idx := 31) (a := 122) (pc' := 65) rfl rfl ho_M rfl rfl ?_
      refine wp_s (i := .iload_n 1) (n := 1) (pc' := 66) (st' := [dz_I s3.1, .ref 122, dz_I (Int.tmod (dz_c s3.1) 10), .ref 117]) rfl rfl ?_
      refine wp_s (i := .bipush 10) (n := 2) (pc' := 68) (st' := [dz_I 10, dz_I s3.1, .ref 122, dz_I (Int.tmod (dz_c s3.1) 10), .ref 117]) rfl rfl ?_
      refine wq_2 (i := .irem) (z := Int.tmod (dz_c s3.1) 10) (pc' := 69) rfl rfl (op_rem rfl dk_10 (by decide)) rfl ?_
      obtain ⟨k15, H⟩ := dz_ck H
      refine wq_ia (j' := dz_c (Int.tmod (dz_c s3.1) 10)) (pc' := 70) rfl ha_M_13 rfl k15.1 k15.2 rfl ?_
      refine wq_is (j' := dz_c (Int.tmod (dz_c s3.1) 10)) (x := Z14 114 13 (dz_c (Int.tmod (dz_c s3.1) 10))) (pc' := 71) rfl ha_M_8 rfl k15.1 k15.2 rfl (fun Z16 eZ16 => ?_)
      replace H := dz_le H Z16 eZ16
      clear eZ16
      refine wp_s (i := .aload_n 0) (n := 1) (pc' := 72) (st' := [.ref 114]) rfl rfl ?_
      refine wq_gr (idx := 19) (a := 118) (pc' := 75) rfl rfl ho_M rfl rfl ?_
      refine wp_s (i := .iload_n 1) (n := 1) (pc' := 76) (st' := [dz_I s3.1, .ref 118]) rfl rfl ?_
      refine wp_s (i := .bipush 8) (n := 2) (pc' := 78) (st' := [dz_I 8, dz_I s3.1, .ref 118]) rfl rfl ?_
      refine wq_2 (i := .irem) (z := Int.tmod (dz_c s3.1) 8) (pc' := 79) rfl rfl (op_rem rfl dk_8 (by decide)) rfl ?_
      refine wp_s (i := .aload_n 0) (n := 1) (pc' := 80) (st' := [.ref 114, dz_I (Int.tmod (dz_c s3.1) 8), .ref 118]) rfl rfl ?_
      refine wq_gr (idx := 34) (a := 123) (pc' := 83) rfl rfl ho_M rfl rfl ?_
      refine wp_s (i := .iload_n 1) (n := 1) (pc' := 84) (st' := [dz_I s3.1, .ref 123, dz_I (Int.tmod (dz_c s3.1) 8), .ref 118]) rfl rfl ?_
      refine wp_s (i := .bipush 8) (n := 2) (pc' := 86) (st' := [dz_I 8, dz_I s3.1, .ref 123, dz_I (Int.tmod (dz_c s3.1) 8), .ref 118]) rfl rfl ?_
      refine wq_2 (i := .irem) (z := Int.tmod (dz_c s3.1) 8) (pc' := 87) rfl rfl (op_rem rfl dk_8 (by decide)) rfl ?_
      refine wq_ia (j' := dz_c (Int.tmod (dz_c s3.1) 8)) (pc' := 88) rfl ha_M_14 rfl k13.1 k13.2 rfl ?_
      refine wq_is (j' := dz_c (Int.tmod (dz_c s3.1) 8)) (x := Z16 114 14 (dz_c (Int.tmod (dz_c s3.1) 8))) (pc' := 89) rfl ha_M_9 rfl k13.1 k13.2 rfl (fun Z17 eZ17 => ?_)
      replace H := dz_le H Z17 eZ17
      clear eZ17
      refine wp_s (i := .aload_n 0) (n := 1) (pc' := 90) (st' := [.ref 114]) rfl rfl ?_
      refine wq_gr (idx := 22) (a := 119) (pc' := 93) rfl rfl ho_M rfl rfl ?_
      refine wp_s (i := .iload_n 1) (n := 1) (pc' := 94) (st' := [dz_I s3.1, .ref 119]) rfl rfl ?_
      refine wp_s (i := .aload_n 0) (n := 1) (pc' := 95) (st' := [.ref 114, dz_I s3.1, .ref 119]) rfl rfl ?_
      refine wq_gr (idx := 37) (a := 124) (pc' := 98) rfl rfl ho_M rfl rfl ?_
      refine wp_s (i := .iload_n 1) (n := 1) (pc' := 99) (st' := [dz_I s3.1, .ref 124, dz_I s3.1, .ref 119]) rfl rfl ?_
      obtain ⟨k18, H⟩ := dz_ck H
      refine wq_ia (j' := dz_c s3.1) (pc' := 100) rfl ha_M_15 rfl k18.1 k18.2 rfl ?_
      refine wq_is (j' := dz_c s3.1) (x := Z17 114 15 (dz_c s3.1)) (pc' := 101) rfl ha_M_10 rfl k18.1 k18.2 rfl (fun Z19 eZ19 => ?_)
      replace H := dz_le H Z19 eZ19
      clear eZ19
      refine wq_inc (k := 1) (d := 1) (x := s3.1) (ls' := [some (.ref 114), some (dz_I (s3.1 + 1))]) (pc' := 104) rfl rfl rfl rfl ?_
      refine wp_s (i := .goto (-75)) (n := 3) (pc' := 29) (st' := []) rfl rfl ?_
      replace H := dz_back H
      exact H
  · replace H := dz_if c2 H
    refine wp_s (i := .aload_n 0) (n := 1) (pc' := 10) (st' := [.ref 114]) rfl rfl ?_
    refine wq_gr (idx := 7) (a := 115) (pc' := 13) rfl rfl ho_M rfl rfl ?_
    refine wp_s (i := .iload_n 1) (n := 1) (pc' := 14) (st' := [dz_I s1.1, .ref 115]) rfl rfl ?_
    refine wp_s (i := .aload_n 0) (n := 1) (pc' := 15) (st' := [.ref 114, dz_I s1.1, .ref 115]) rfl rfl ?_
    refine wq_gr (idx := 25) (a := 120) (pc' := 18) rfl rfl ho_M rfl rfl ?_
    refine wp_s (i := .iload_n 1) (n := 1) (pc' := 19) (st' := [dz_I s1.1, .ref 120, dz_I s1.1, .ref 115]) rfl rfl ?_
    obtain ⟨k20, H⟩ := dz_ck H
    refine wq_ia (j' := dz_c s1.1) (pc' := 20) rfl ha_M_11 rfl k20.1 k20.2 rfl ?_
    obtain ⟨k21, H⟩ := dz_ck H
    refine wq_is (j' := dz_c s1.1) (x := s1.2 114 11 (dz_c s1.1)) (pc' := 21) rfl ha_M_0 rfl k21.1 k21.2 rfl (fun Z22 eZ22 => ?_)
    replace H := dz_le H Z22 eZ22
    clear eZ22
    refine wq_inc (k := 1) (d := 1) (x := s1.1) (ls' := [some (.ref 114), some (dz_I (s1.1 + 1))]) (pc' := 24) rfl rfl rfl rfl ?_
    refine wp_s (i := .goto (-22)) (n := 3) (pc' := 2) (st' := []) rfl rfl ?_
    replace H := dz_back H
    exact H
-- 135
def jf_M_organ (Z : dz_Z) : Option (Int × dz_Z) := dz_a (dz_u Z 114 24 0 0) fun Z1 => dz_a (dz_u Z1 114 26 0 0) fun Z2 => dz_a (dz_u Z2 114 20 0 0) fun Z3 => dz_a (dz_u Z3 114 17 0 0) fun Z4 => dz_a (dz_u Z4 114 18 0 (-1)) fun Z5 => dz_a (dz_u Z5 114 19 0 (-1)) fun Z6 => dz_lp (fun (s7 : Int × dz_Z) => if 140 ≤ dz_c s7.1 then (Option.bind (jf_M_step s7.2) fun q9 => dz_lp (fun (s10 : Int × dz_Z) => if dz_c (s10.2 114 24 0) ≠ 0 then (Option.bind (α := dz_Z) (if dz_c (s10.2 114 24 0) ≠ 0 then (some s10.2) else (if dz_c (s10.2 114 16 1) ≤ dz_c (s10.2 114 18 0) then (Option.bind (jf_M_fails 6 s10.2) fun q24 => some q24) else (if dz_c (s10.2 114 19 0) < dz_c (s10.2 114 16 2) then (some s10.2) else (Option.bind (jf_M_fails 6 s10.2) fun q26 => some q26)))) (fun (q17 : dz_Z) => dz_a (dz_u q17 114 22 0 0) fun Z18 => dz_a (dz_u Z18 114 23 0 (Z18 114 24 0)) fun Z19 => if dz_c (Z19 114 24 0) ≤ 0 then (Option.bind (jf_M_takes Z19) fun q21 => some (Sum.inr (Sum.inr (s10.1, q21)))) else (some (Sum.inr (Sum.inr ((-10) - (Z19 114 25 0), Z19)))))) else (if dz_c (s10.2 114 28 0) = 0 then (Option.bind (α := dz_Z) (if dz_c (s10.2 114 24 0) ≠ 0 then (some s10.2) else (if dz_c (s10.2 114 16 1) ≤ dz_c (s10.2 114 18 0) then (Option.bind (jf_M_fails 6 s10.2) fun q40 => some q40) else (if dz_c (s10.2 114 19 0) < dz_c (s10.2 114 16 2) then (some s10.2) else (Option.bind (jf_M_fails 6 s10.2) fun q42 => some q42)))) (fun (q33 : dz_Z) => dz_a (dz_u q33 114 22 0 0) fun Z34 => dz_a (dz_u Z34 114 23 0 (Z34 114 24 0)) fun Z35 => if dz_c (Z35 114 24 0) ≤ 0 then (Option.bind (jf_M_takes Z35) fun q37 => some (Sum.inr (Sum.inr (s10.1, q37)))) else (some (Sum.inr (Sum.inr ((-10) - (Z35 114 25 0), Z35)))))) else (Option.bind (jf_M_readLine s10.2) fun q43 => some (Sum.inl (s10.1 + 1, q43))))) 5000 (0, q9)) else (if 0 ≤ dz_c s7.1 ∧ dz_c s7.1 < 140 then dz_a (dz_u s7.2 114 11 (dz_c s7.1) 0) fun Z45 => if 0 ≤ dz_c (Int.tmod (dz_c s7.1) 5) ∧ dz_c (Int.tmod (dz_c s7.1) 5) < 5 then dz_a (dz_u Z45 114 16 (dz_c (Int.tmod (dz_c s7.1) 5)) 0) fun Z47 => some (Sum.inl (s7.1 + 1, Z47)) else none else none)) 5000 (0, Z6)
set_option maxRecDepth 20000 in
theorem jw_M_organ {X : Option (List Int32)} {D : Nat} {Q : Option Value → mm_H → Prop} (Z : dz_Z) (H : dz_p (jf_M_organ Z) (fun q => Q (some (dz_I q.1)) (hz_0 q.2))) : mm_Wp X (D + 6) mm_r135 0 [some (.ref 114), none, none] [] (hz_0 Z) Q := by
  unfold jf_M_organ at H
  refine wp_s (i := .aload_n 0) (n := 1) (pc' := 1) (st' := [.ref 114]) rfl rfl ?_
  refine wp_s (i := .iconst 0) (n := 1) (pc' := 2) (st' := [dz_I 0, .ref 114]) rfl rfl ?_
  refine wq_pi (idx := 85) (x := 0) (pc' := 5) rfl rfl rfl ho_M rfl rfl rfl rfl (fun Z1 eZ1 => ?_)
  replace H := dz_le H Z1 eZ1
  clear eZ1
  refine wp_s (i := .aload_n 0) (n := 1) (pc' := 6) (st' := [.ref 114]) rfl rfl ?_
  refine wp_s (i := .iconst 0) (n := 1) (pc' := 7) (st' := [dz_I 0, .ref 114]) rfl rfl ?_
  refine wq_pi (idx := 97) (x := 0) (pc' := 10) rfl rfl rfl ho_M rfl rfl rfl rfl (fun Z2 eZ2 => ?_)
  replace H := dz_le H Z2 eZ2
  clear eZ2
  refine wp_s (i := .aload_n 0) (n := 1) (pc' := 11) (st' := [.ref 114]) rfl rfl ?_
  refine wp_s (i := .iconst 0) (n := 1) (pc' := 12) (st' := [dz_I 0, .ref 114]) rfl rfl ?_
  refine wq_pi (idx := 158) (x := 0) (pc' := 15) rfl rfl rfl ho_M rfl rfl rfl rfl (fun Z3 eZ3 => ?_)
  replace H := dz_le H Z3 eZ3
  clear eZ3
  refine wp_s (i := .aload_n 0) (n := 1) (pc' := 16) (st' := [.ref 114]) rfl rfl ?_
  refine wp_s (i := .iconst 0) (n := 1) (pc' := 17) (st' := [dz_I 0, .ref 114]) rfl rfl ?_
  refine wq_pi (idx := 161) (x := 0) (pc' := 20) rfl rfl rfl ho_M rfl rfl rfl rfl (fun Z4 eZ4 => ?_)
  replace H := dz_le H Z4 eZ4
  clear eZ4
  refine wp_s (i := .aload_n 0) (n := 1) (pc' := 21) (st' := [.ref 114]) rfl rfl ?_
  refine wp_s (i := .iconst (-1)) (n := 1) (pc' := 22) (st' := [dz_I (-1), .ref 114]) rfl rfl ?_
  refine wq_pi (idx := 130) (x := (-1)) (pc' := 25) rfl rfl rfl ho_M rfl rfl rfl rfl (fun Z5 eZ5 => ?_)
  replace H := dz_le H Z5 eZ5
  clear eZ5
  refine wp_s (i := .aload_n 0) (n := 1) (pc' := 26) (st' := [.ref 114]) rfl rfl ?_
  refine wp_s (i := .iconst (-1)) (n := 1) (pc' := 27) (st' := [dz_I (-1), .ref 114]) rfl rfl ?_
  refine wq_pi (idx := 137) (x := (-1)) (pc' := 30) rfl rfl rfl ho_M rfl rfl rfl rfl (fun Z6 eZ6 => ?_)
  replace H := dz_le H Z6 eZ6
  clear eZ6
  refine wp_s (i := .iconst 0) (n := 1) (pc' := 31) (st' := [dz_I 0]) rfl rfl ?_
  refine wq_st (k := 1) (i := .istore_n 1) (n := 1) (ls' := [some (.ref 114), some (dz_I 0), none]) (pc' := 32) rfl rfl rfl rfl rfl ?_
  refine wp_s (i := .iconst 0) (n := 1) (pc' := 33) (st' := [dz_I 0]) rfl rfl ?_
  refine wq_st (k := 2) (i := .istore_n 2) (n := 1) (ls' := [some (.ref 114), some (dz_I 0), some (dz_I 0)]) (pc' := 34) rfl rfl rfl rfl rfl ?_
  refine dz_lpi (P := fun (s7 : Int × dz_Z) => mm_Wp X (D + 6) mm_r135 34 [some (.ref 114), some (dz_I 0), some (dz_I s7.1)] [] (hz_0 s7.2) Q) (fun s7 H => ?_) 5000 (0, Z6) H
  refine wp_s (i := .iload_n 2) (n := 1) (pc' := 35) (st' := [dz_I s7.1]) rfl rfl ?_
  refine wp_s (i := .sipush 140) (n := 3) (pc' := 38) (st' := [dz_I 140, dz_I s7.1]) rfl rfl ?_
  refine wq_ic (p := 140 ≤ dz_c s7.1) (tt := 63) (pc' := 41) rfl rfl (cq_ge rfl dk_140) rfl (fun c8 => ?_) (fun c8 => ?_)
  · replace H := dz_it c8 H
    refine wp_s (i := .aload_n 0) (n := 1) (pc' := 64) (st' := [.ref 114]) rfl rfl ?_
    refine wq_cv (Dq := (D + 5)) (r' := mm_r126) (as0 := []) (rest := []) (ls' := [some (.ref 114), none]) (pc' := 67) rfl rfl rfl rfl ho_M rfl rfl rfl ?_
    refine jw_M_step (X := X) (D := D + 4) s7.2 (dz_pm (dz_bi H) (fun q9 H => ?_))
    show mm_Wp X (D + 6) mm_r135 67 [some (.ref 114), some (dz_I 0), some (dz_I s7.1)] [] (hz_0 q9) Q
    refine dz_lpi (P := fun (s10 : Int × dz_Z) => mm_Wp X (D + 6) mm_r135 67 [some (.ref 114), some (dz_I s10.1), some (dz_I s7.1)] [] (hz_0 s10.2) Q) (fun s10 H => ?_) 5000 (0, q9) H
    refine wp_s (i := .aload_n 0) (n := 1) (pc' := 68) (st' := [.ref 114]) rfl rfl ?_
    refine wq_gi (idx := 85) (pc' := 71) rfl rfl ho_M rfl rfl ?_
    refine wq_if (p := dz_c (s10.2 114 24 0) ≠ 0) (tt := 91) (pc' := 74) rfl rfl (cz_ne rfl) rfl (fun c11 => ?_) (fun c11 => ?_)
    · replace H := dz_it c11 H
      refine wp_s (i := .aload_n 0) (n := 1) (pc' := 92) (st' := [.ref 114]) rfl rfl ?_
      refine wq_gi (idx := 85) (pc' := 95) rfl rfl ho_M rfl rfl ?_
      refine dz_jn (P := fun (q17 : dz_Z) => mm_Wp X (D + 6) mm_r135 130 [some (.ref 114), some (dz_I s10.1), some (dz_I s7.1)] [] (hz_0 q17) Q) (dz_bi H) (fun q17 H => ?_) (fun H => ?_)
      · skip
        refine wp_s (i := .aload_n 0) (n := 1) (pc' := 131) (st' := [.ref 114]) rfl rfl ?_
        refine wp_s (i := .iconst 0) (n := 1) (pc' := 132) (st' := [dz_I 0, .ref 114]) rfl rfl ?_
        refine wq_pi (idx := 77) (x := 0) (pc' := 135) rfl rfl rfl ho_M rfl rfl rfl rfl (fun Z18 eZ18 => ?_)
        replace H := dz_le H Z18 eZ18
        clear eZ18
        refine wp_s (i := .aload_n 0) (n := 1) (pc' := 136) (st' := [.ref 114]) rfl rfl ?_
        refine wp_s (i := .aload_n 0) (n := 1) (pc' := 137) (st' := [.ref 114, .ref 114]) rfl rfl ?_
        refine wq_gi (idx := 85) (pc' := 140) rfl rfl ho_M rfl rfl ?_
        refine wq_pi (idx := 185) (x := Z18 114 24 0) (pc' := 143) rfl rfl rfl ho_M rfl rfl rfl rfl (fun Z19 eZ19 => ?_)
        replace H := dz_le H Z19 eZ19
        clear eZ19
        refine wp_s (i := .aload_n 0) (n := 1) (pc' := 144) (st' := [.ref 114]) rfl rfl ?_
        refine wq_gi (idx := 85) (pc' := 147) rfl rfl ho_M rfl rfl ?_
        refine wq_if (p := dz_c (Z19 114 24 0) ≤ 0) (tt := 158) (pc' := 150) rfl rfl (cz_le rfl) rfl (fun c20 => ?_) (fun c20 => ?_)
        · replace H := dz_it c20 H
          refine wp_s (i := .aload_n 0) (n := 1) (pc' := 159) (st' := [.ref 114]) rfl rfl ?_
          refine wq_cv (Dq := (D + 5)) (r' := mm_r134) (as0 := []) (rest := []) (ls' := [some (.ref 114), none]) (pc' := 162) rfl rfl rfl rfl ho_M rfl rfl rfl ?_
          refine jw_M_takes (X := X) (D := D + 5) Z19 (dz_pm (dz_bi H) (fun q21 H => ?_))
          show mm_Wp X (D + 6) mm_r135 162 [some (.ref 114), some (dz_I s10.1), some (dz_I s7.1)] [] (hz_0 q21) Q
          refine wp_s (i := .iload_n 1) (n := 1) (pc' := 163) (st' := [dz_I s10.1]) rfl rfl ?_
          refine wq_ri rfl rfl ?_
          replace H := dz_out H
          replace H := dz_out H
          replace H := dz_sm H
          exact H
        · replace H := dz_if c20 H
          refine wp_s (i := .bipush (-10)) (n := 2) (pc' := 152) (st' := [dz_I (-10)]) rfl rfl ?_
          refine wp_s (i := .aload_n 0) (n := 1) (pc' := 153) (st' := [.ref 114, dz_I (-10)]) rfl rfl ?_
          refine wq_gi (idx := 91) (pc' := 156) rfl rfl ho_M rfl rfl ?_
          refine wq_2 (i := .isub) (z := (-10) - (Z19 114 25 0)) (pc' := 157) rfl rfl (op_sub _ _) rfl ?_
          refine wq_ri rfl rfl ?_
          replace H := dz_out H
          replace H := dz_out H
          replace H := dz_sm H
          exact H
      · skip
        refine wq_if (p := dz_c (s10.2 114 24 0) ≠ 0) (tt := 130) (pc' := 98) rfl rfl (cz_ne rfl) rfl (fun c22 => ?_) (fun c22 => ?_)
        · replace H := dz_it c22 H
          replace H := dz_sm H
          exact H
        · replace H := dz_if c22 H
          refine wp_s (i := .aload_n 0) (n := 1) (pc' := 99) (st' := [.ref 114]) rfl rfl ?_
          refine wq_gi (idx := 130) (pc' := 102) rfl rfl ho_M rfl rfl ?_
          refine wp_s (i := .aload_n 0) (n := 1) (pc' := 103) (st' := [.ref 114, dz_I (s10.2 114 18 0)]) rfl rfl ?_
          refine wq_gr (idx := 40) (a := 125) (pc' := 106) rfl rfl ho_M rfl rfl ?_
          refine wp_s (i := .iconst 1) (n := 1) (pc' := 107) (st' := [dz_I 1, .ref 125, dz_I (s10.2 114 18 0)]) rfl rfl ?_
          refine wq_ia (j' := 1) (pc' := 108) rfl ha_M_16 dk_1 (by decide) (by decide) rfl ?_
          refine wq_ic (p := dz_c (s10.2 114 16 1) ≤ dz_c (s10.2 114 18 0)) (tt := 124) (pc' := 111) rfl rfl (cq_ge rfl rfl) rfl (fun c23 => ?_) (fun c23 => ?_)
          · replace H := dz_it c23 H
            refine wp_s (i := .aload_n 0) (n := 1) (pc' := 125) (st' := [.ref 114]) rfl rfl ?_
            refine wp_s (i := .bipush 6) (n := 2) (pc' := 127) (st' := [dz_I 6, .ref 114]) rfl rfl ?_
            refine wq_cv (Dq := (D + 5)) (r' := mm_r124) (as0 := [dz_I 6]) (rest := []) (ls' := [some (.ref 114), some (dz_I 6)]) (pc' := 130) rfl rfl rfl rfl ho_M rfl rfl rfl ?_
            refine jw_M_fails (X := X) (D := D + 5) 6 s10.2 (dz_pm (dz_bi H) (fun q24 H => ?_))
            show mm_Wp X (D + 6) mm_r135 130 [some (.ref 114), some (dz_I s10.1), some (dz_I s7.1)] [] (hz_0 q24) Q
            replace H := dz_sm H
            exact H
          · replace H := dz_if c23 H
            refine wp_s (i := .aload_n 0) (n := 1) (pc' := 112) (st' := [.ref 114]) rfl rfl ?_
            refine wq_gi (idx := 137) (pc' := 115) rfl rfl ho_M rfl rfl ?_
            refine wp_s (i := .aload_n 0) (n := 1) (pc' := 116) (st' := [.ref 114, dz_I (s10.2 114 19 0)]) rfl rfl ?_
            refine wq_gr (idx := 40) (a := 125) (pc' := 119) rfl rfl ho_M rfl rfl ?_
            refine wp_s (i := .iconst 2) (n := 1) (pc' := 120) (st' := [dz_I 2, .ref 125, dz_I (s10.2 114 19 0)]) rfl rfl ?_
            refine wq_ia (j' := 2) (pc' := 121) rfl ha_M_16 dk_2 (by decide) (by decide) rfl ?_
            refine wq_ic (p := dz_c (s10.2 114 19 0) < dz_c (s10.2 114 16 2)) (tt := 130) (pc' := 124) rfl rfl (cq_lt rfl rfl) rfl (fun c25 => ?_) (fun c25 => ?_)
            · replace H := dz_it c25 H
              replace H := dz_sm H
              exact H
            · replace H := dz_if c25 H
              refine wp_s (i := .aload_n 0) (n := 1) (pc' := 125) (st' := [.ref 114]) rfl rfl ?_
              refine wp_s (i := .bipush 6) (n := 2) (pc' := 127) (st' := [dz_I 6, .ref 114]) rfl rfl ?_
              refine wq_cv (Dq := (D + 5)) (r' := mm_r124) (as0 := [dz_I 6]) (rest := []) (ls' := [some (.ref 114), some (dz_I 6)]) (pc' := 130) rfl rfl rfl rfl ho_M rfl rfl rfl ?_
              refine jw_M_fails (X := X) (D := D + 5) 6 s10.2 (dz_pm (dz_bi H) (fun q26 H => ?_))
              show mm_Wp X (D + 6) mm_r135 130 [some (.ref 114), some (dz_I s10.1), some (dz_I s7.1)] [] (hz_0 q26) Q
              replace H := dz_sm H
              exact H
    · replace H := dz_if c11 H
      refine wp_s (i := .aload_n 0) (n := 1) (pc' := 75) (st' := [.ref 114]) rfl rfl ?_
      refine wq_gi (idx := 94) (pc' := 78) rfl rfl ho_M rfl rfl ?_
      refine wq_if (p := dz_c (s10.2 114 28 0) = 0) (tt := 91) (pc' := 81) rfl rfl (cz_eq rfl) rfl (fun c27 => ?_) (fun c27 => ?_)
      · replace H := dz_it c27 H
        refine wp_s (i := .aload_n 0) (n := 1) (pc' := 92) (st' := [.ref 114]) rfl rfl ?_
        refine wq_gi (idx := 85) (pc' := 95) rfl rfl ho_M rfl rfl ?_
        refine dz_jn (P := fun (q33 : dz_Z) => mm_Wp X (D + 6) mm_r135 130 [some (.ref 114), some (dz_I s10.1), some (dz_I s7.1)] [] (hz_0 q33) Q) (dz_bi H) (fun q33 H => ?_) (fun H => ?_)
        · skip
          refine wp_s (i := .aload_n 0) (n := 1) (pc' := 131) (st' := [.ref 114]) rfl rfl ?_
          refine wp_s (i := .iconst 0) (n := 1) (pc' := 132) (st' := [dz_I 0, .ref 114]) rfl rfl ?_
          refine wq_pi (idx := 77) (x := 0) (pc' := 135) rfl rfl rfl ho_M rfl rfl rfl rfl (fun Z34 eZ34 => ?_)
          replace H := dz_le H Z34 eZ34
          clear eZ34
          refine wp_s (i := .aload_n 0) (n := 1) (pc' := 136) (st' := [.ref 114]) rfl rfl ?_
          refine wp_s (i := .aload_n 0) (n := 1) (pc' := 137) (st' := [.ref 114, .ref 114]) rfl rfl ?_
          refine wq_gi (idx := 85) (pc' := 140) rfl rfl ho_M rfl rfl ?_
          refine wq_pi (idx := 185) (x := Z34 114 24 0) (pc' := 143) rfl rfl rfl ho_M rfl rfl rfl rfl (fun Z35 eZ35 => ?_)
          replace H := dz_le H Z35 eZ35
          clear eZ35
          refine wp_s (i := .aload_n 0) (n := 1) (pc' := 144) (st' := [.ref 114]) rfl rfl ?_
          refine wq_gi (idx := 85) (pc' := 147) rfl rfl ho_M rfl rfl ?_
          refine wq_if (p := dz_c (Z35 114 24 0) ≤ 0) (tt := 158) (pc' := 150) rfl rfl (cz_le rfl) rfl (fun c36 => ?_) (fun c36 => ?_)
          · replace H := dz_it c36 H
            refine wp_s (i := .aload_n 0) (n := 1) (pc' := 159) (st' := [.ref 114]) rfl rfl ?_
            refine wq_cv (Dq := (D + 5)) (r' := mm_r134) (as0 := []) (rest := []) (ls' := [some (.ref 114), none]) (pc' := 162) rfl rfl rfl rfl ho_M rfl rfl rfl ?_
            refine jw_M_takes (X := X) (D := D + 5) Z35 (dz_pm (dz_bi H) (fun q37 H => ?_))
            show mm_Wp X (D + 6) mm_r135 162 [some (.ref 114), some (dz_I s10.1), some (dz_I s7.1)] [] (hz_0 q37) Q
            refine wp_s (i := .iload_n 1) (n := 1) (pc' := 163) (st' := [dz_I s10.1]) rfl rfl ?_
            refine wq_ri rfl rfl ?_
            replace H := dz_out H
            replace H := dz_out H
            replace H := dz_sm H
            exact H
          · replace H := dz_if c36 H
            refine wp_s (i := .bipush (-10)) (n := 2) (pc' := 152) (st' := [dz_I (-10)]) rfl rfl ?_
            refine wp_s (i := .aload_n 0) (n := 1) (pc' := 153) (st' := [.ref 114, dz_I (-10)]) rfl rfl ?_
            refine wq_gi (idx := 91) (pc' := 156) rfl rfl ho_M rfl rfl ?_
            refine wq_2 (i := .isub) (z := (-10) - (Z35 114 25 0)) (pc' := 157) rfl rfl (op_sub _ _) rfl ?_
            refine wq_ri rfl rfl ?_
            replace H := dz_out H
            replace H := dz_out H
            replace H := dz_sm H
            exact H
        · skip
          refine wq_if (p := dz_c (s10.2 114 24 0) ≠ 0) (tt := 130) (pc' := 98) rfl rfl (cz_ne rfl) rfl (fun c38 => ?_) (fun c38 => ?_)
          · replace H := dz_it c38 H
            replace H := dz_sm H
            exact H
          · replace H := dz_if c38 H
            refine wp_s (i := .aload_n 0) (n := 1) (pc' := 99) (st' := [.ref 114]) rfl rfl ?_
            refine wq_gi (idx := 130) (pc' := 102) rfl rfl ho_M rfl rfl ?_
            refine wp_s (i := .aload_n 0) (n := 1) (pc' := 103) (st' := [.ref 114, dz_I (s10.2 114 18 0)]) rfl rfl ?_
            refine wq_gr (idx := 40) (a := 125) (pc' := 106) rfl rfl ho_M rfl rfl ?_
            refine wp_s (i := .iconst 1) (n := 1) (pc' := 107) (st' := [dz_I 1, .ref 125, dz_I (s10.2 114 18 0)]) rfl rfl ?_
            refine wq_ia (j' := 1) (pc' := 108) rfl ha_M_16 dk_1 (by decide) (by decide) rfl ?_
            refine wq_ic (p := dz_c (s10.2 114 16 1) ≤ dz_c (s10.2 114 18 0)) (tt := 124) (pc' := 111) rfl rfl (cq_ge rfl rfl) rfl (fun c39 => ?_) (fun c39 => ?_)
            · replace H := dz_it c39 H
              refine wp_s (i := .aload_n 0) (n := 1) (pc' := 125) (st' := [.ref 114]) rfl rfl ?_
              refine wp_s (i := .bipush 6) (n := 2) (pc' := 127) (st' := [dz_I 6, .ref 114]) rfl rfl ?_
              refine wq_cv (Dq := (D + 5)) (r' := mm_r124) (as0 := [dz_I 6]) (rest := []) (ls' := [some (.ref 114), some (dz_I 6)]) (pc' := 130) rfl rfl rfl rfl ho_M rfl rfl rfl ?_
              refine jw_M_fails (X := X) (D := D + 5) 6 s10.2 (dz_pm (dz_bi H) (fun q40 H => ?_))
              show mm_Wp X (D + 6) mm_r135 130 [some (.ref 114), some (dz_I s10.1), some (dz_I s7.1)] [] (hz_0 q40) Q
              replace H := dz_sm H
              exact H
            · replace H := dz_if c39 H
              refine wp_s (i := .aload_n 0) (n := 1) (pc' := 112) (st' := [.ref 114]) rfl rfl ?_
              refine wq_gi (idx := 137) (pc' := 115) rfl rfl ho_M rfl rfl ?_
              refine wp_s (i := .aload_n 0) (n := 1) (pc' := 116) (st' := [.ref 114, dz_I (s10.2 114 19 0)]) rfl rfl ?_
              refine wq_gr (idx := 40) (a := 125) (pc' := 119) rfl rfl ho_M rfl rfl ?_
              refine wp_s (i := .iconst 2) (n := 1) (pc' := 120) (st' := [dz_I 2, .ref 125, dz_I (s10.2 114 19 0)]) rfl rfl ?_
              refine wq_ia (j' := 2) (pc' := 121) rfl ha_M_16 dk_2 (by decide) (by decide) rfl ?_
              refine wq_ic (p := dz_c (s10.2 114 19 0) < dz_c (s10.2 114 16 2)) (tt := 130) (pc' := 124) rfl rfl (cq_lt rfl rfl) rfl (fun c41 => ?_) (fun c41 => ?_)
              · replace H := dz_it c41 H
                replace H := dz_sm H
                exact H
              · replace H := dz_if c41 H
                refine wp_s (i := .aload_n 0) (n := 1) (pc' := 125) (st' := [.ref 114]) rfl rfl ?_
                refine wp_s (i := .bipush 6) (n := 2) (pc' := 127) (st' := [dz_I 6, .ref 114]) rfl rfl ?_
                refine wq_cv (Dq := (D + 5)) (r' := mm_r124) (as0 := [dz_I 6]) (rest := []) (ls' := [some (.ref 114), some (dz_I 6)]) (pc' := 130) rfl rfl rfl rfl ho_M rfl rfl rfl ?_
                refine jw_M_fails (X := X) (D := D + 5) 6 s10.2 (dz_pm (dz_bi H) (fun q42 H => ?_))
                show mm_Wp X (D + 6) mm_r135 130 [some (.ref 114), some (dz_I s10.1), some (dz_I s7.1)] [] (hz_0 q42) Q
                replace H := dz_sm H
                exact H
      · replace H := dz_if c27 H
        refine wp_s (i := .aload_n 0) (n := 1) (pc' := 82) (st' := [.ref 114]) rfl rfl ?_
        refine wq_cv (Dq := (D + 5)) (r' := mm_r133) (as0 := []) (rest := []) (ls' := [some (.ref 114), none]) (pc' := 85) rfl rfl rfl rfl ho_M rfl rfl rfl ?_
        refine jw_M_readLine (X := X) (D := D + 0) s10.2 (dz_pm (dz_bi H) (fun q43 H => ?_))
        show mm_Wp X (D + 6) mm_r135 85 [some (.ref 114), some (dz_I s10.1), some (dz_I s7.1)] [] (hz_0 q43) Q
        refine wq_inc (k := 1) (d := 1) (x := s10.1) (ls' := [some (.ref 114), some (dz_I (s10.1 + 1)), some (dz_I s7.1)]) (pc' := 88) rfl rfl rfl rfl ?_
        refine wp_s (i := .goto (-21)) (n := 3) (pc' := 67) (st' := []) rfl rfl ?_
        replace H := dz_back H
        exact H
  · replace H := dz_if c8 H
    refine wp_s (i := .aload_n 0) (n := 1) (pc' := 42) (st' := [.ref 114]) rfl rfl ?_
    refine wq_gr (idx := 25) (a := 120) (pc' := 45) rfl rfl ho_M rfl rfl ?_
    refine wp_s (i := .iload_n 2) (n := 1) (pc' := 46) (st' := [dz_I s7.1, .ref 120]) rfl rfl ?_
    refine wp_s (i := .iconst 0) (n := 1) (pc' := 47) (st' := [dz_I 0, dz_I s7.1, .ref 120]) rfl rfl ?_
    obtain ⟨k44, H⟩ := dz_ck H
    refine wq_is (j' := dz_c s7.1) (x := 0) (pc' := 48) rfl ha_M_11 rfl k44.1 k44.2 rfl (fun Z45 eZ45 => ?_)
    replace H := dz_le H Z45 eZ45
    clear eZ45
    refine wp_s (i := .aload_n 0) (n := 1) (pc' := 49) (st' := [.ref 114]) rfl rfl ?_
    refine wq_gr (idx := 40) (a := 125) (pc' := 52) rfl rfl ho_M rfl rfl ?_
    refine wp_s (i := .iload_n 2) (n := 1) (pc' := 53) (st' := [dz_I s7.1, .ref 125]) rfl rfl ?_
    refine wp_s (i := .iconst 5) (n := 1) (pc' := 54) (st' := [dz_I 5, dz_I s7.1, .ref 125]) rfl rfl ?_
    refine wq_2 (i := .irem) (z := Int.tmod (dz_c s7.1) 5) (pc' := 55) rfl rfl (op_rem rfl dk_5 (by decide)) rfl ?_
    refine wp_s (i := .iconst 0) (n := 1) (pc' := 56) (st' := [dz_I 0, dz_I (Int.tmod (dz_c s7.1) 5), .ref 125]) rfl rfl ?_
    obtain ⟨k46, H⟩ := dz_ck H
    refine wq_is (j' := dz_c (Int.tmod (dz_c s7.1) 5)) (x := 0) (pc' := 57) rfl ha_M_16 rfl k46.1 k46.2 rfl (fun Z47 eZ47 => ?_)
    replace H := dz_le H Z47 eZ47
    clear eZ47
    refine wq_inc (k := 2) (d := 1) (x := s7.1) (ls' := [some (.ref 114), some (dz_I 0), some (dz_I (s7.1 + 1))]) (pc' := 60) rfl rfl rfl rfl ?_
    refine wp_s (i := .goto (-26)) (n := 3) (pc' := 34) (st' := []) rfl rfl ?_
    replace H := dz_back H
    exact H
-- 136
def jf_M_fault (Z : dz_Z) : Option (Int) := some (Z 114 23 0)
set_option maxRecDepth 20000 in
theorem jw_M_fault {X : Option (List Int32)} {D : Nat} {Q : Option Value → mm_H → Prop} (Z : dz_Z) (H : dz_p (jf_M_fault Z) (fun q => Q (some (dz_I q)) (hz_0 Z))) : mm_Wp X D mm_r136 0 [some (.ref 114)] [] (hz_0 Z) Q := by
  unfold jf_M_fault at H
  refine wp_s (i := .aload_n 0) (n := 1) (pc' := 1) (st' := [.ref 114]) rfl rfl ?_
  refine wq_gi (idx := 185) (pc' := 4) rfl rfl ho_M rfl rfl ?_
  refine wq_ri rfl rfl ?_
  replace H := dz_sm H
  exact H
-- 137
def jf_M_rule (a1 : Int) (Z : dz_Z) : Option (Int) := if dz_c a1 = 0 then (some (Z 114 1 0)) else (if dz_c a1 = 1 then (some (Z 114 2 0)) else (if dz_c a1 = 2 then (some (Z 114 3 0)) else (if dz_c a1 = 3 then (some (Z 114 4 0)) else (if dz_c a1 = 4 then (some (Z 114 0 73)) else (if dz_c a1 = 5 then (some (Z 114 5 0)) else (if dz_c a1 = 6 then (some (Z 114 6 0)) else (some (-1))))))))
set_option maxRecDepth 20000 in
theorem jw_M_rule {X : Option (List Int32)} {D : Nat} {Q : Option Value → mm_H → Prop} (a1 : Int) (Z : dz_Z) (H : dz_p (jf_M_rule a1 Z) (fun q => Q (some (dz_I q)) (hz_0 Z))) : mm_Wp X D mm_r137 0 [some (.ref 114), some (dz_I a1)] [] (hz_0 Z) Q := by
  unfold jf_M_rule at H
  refine wp_s (i := .iload_n 1) (n := 1) (pc' := 1) (st' := [dz_I a1]) rfl rfl ?_
  by_cases c1 : dz_c a1 = 0
  · replace H := dz_it c1 H
    refine wq_ts (x' := dz_c a1) (tt := 44) rfl rfl (by rw [c1]; rfl) ?_
    refine wp_s (i := .aload_n 0) (n := 1) (pc' := 45) (st' := [.ref 114]) rfl rfl ?_
    refine wq_gi (idx := 164) (pc' := 48) rfl rfl ho_M rfl rfl ?_
    refine wq_ri rfl rfl ?_
    replace H := dz_sm H
    exact H
  · replace H := dz_if c1 H
    by_cases c2 : dz_c a1 = 1
    · replace H := dz_it c2 H
      refine wq_ts (x' := dz_c a1) (tt := 49) rfl rfl (by rw [c2]; rfl) ?_
      refine wp_s (i := .aload_n 0) (n := 1) (pc' := 50) (st' := [.ref 114]) rfl rfl ?_
      refine wq_gi (idx := 167) (pc' := 53) rfl rfl ho_M rfl rfl ?_
      refine wq_ri rfl rfl ?_
      replace H := dz_sm H
      exact H
    · replace H := dz_if c2 H
      by_cases c3 : dz_c a1 = 2
      · replace H := dz_it c3 H
        refine wq_ts (x' := dz_c a1) (tt := 54) rfl rfl (by rw [c3]; rfl) ?_
        refine wp_s (i := .aload_n 0) (n := 1) (pc' := 55) (st' := [.ref 114]) rfl rfl ?_
        refine wq_gi (idx := 170) (pc' := 58) rfl rfl ho_M rfl rfl ?_
        refine wq_ri rfl rfl ?_
        replace H := dz_sm H
        exact H
      · replace H := dz_if c3 H
        by_cases c4 : dz_c a1 = 3
        · replace H := dz_it c4 H
          refine wq_ts (x' := dz_c a1) (tt := 59) rfl rfl (by rw [c4]; rfl) ?_
          refine wp_s (i := .aload_n 0) (n := 1) (pc' := 60) (st' := [.ref 114]) rfl rfl ?_
          refine wq_gi (idx := 173) (pc' := 63) rfl rfl ho_M rfl rfl ?_
          refine wq_ri rfl rfl ?_
          replace H := dz_sm H
          exact H
        · replace H := dz_if c4 H
          by_cases c5 : dz_c a1 = 4
          · replace H := dz_it c5 H
            refine wq_ts (x' := dz_c a1) (tt := 64) rfl rfl (by rw [c5]; rfl) ?_
            refine wp_s (i := .aload_n 0) (n := 1) (pc' := 65) (st' := [.ref 114]) rfl rfl ?_
            refine wq_gr (idx := 7) (a := 115) (pc' := 68) rfl rfl ho_M rfl rfl ?_
            refine wp_s (i := .bipush 73) (n := 2) (pc' := 70) (st' := [dz_I 73, .ref 115]) rfl rfl ?_
            refine wq_ia (j' := 73) (pc' := 71) rfl ha_M_0 dk_73 (by decide) (by decide) rfl ?_
            refine wq_ri rfl rfl ?_
            replace H := dz_sm H
            exact H
          · replace H := dz_if c5 H
            by_cases c6 : dz_c a1 = 5
            · replace H := dz_it c6 H
              refine wq_ts (x' := dz_c a1) (tt := 72) rfl rfl (by rw [c6]; rfl) ?_
              refine wp_s (i := .aload_n 0) (n := 1) (pc' := 73) (st' := [.ref 114]) rfl rfl ?_
              refine wq_gi (idx := 176) (pc' := 76) rfl rfl ho_M rfl rfl ?_
              refine wq_ri rfl rfl ?_
              replace H := dz_sm H
              exact H
            · replace H := dz_if c6 H
              by_cases c7 : dz_c a1 = 6
              · replace H := dz_it c7 H
                refine wq_ts (x' := dz_c a1) (tt := 77) rfl rfl (by rw [c7]; rfl) ?_
                refine wp_s (i := .aload_n 0) (n := 1) (pc' := 78) (st' := [.ref 114]) rfl rfl ?_
                refine wq_gi (idx := 179) (pc' := 81) rfl rfl ho_M rfl rfl ?_
                refine wq_ri rfl rfl ?_
                replace H := dz_sm H
                exact H
              · replace H := dz_if c7 H
                refine wq_ts (x' := dz_c a1) (tt := 82) rfl rfl (by unfold mm_sw; rw [if_pos (by omega)]; rfl) ?_
                refine wp_s (i := .iconst (-1)) (n := 1) (pc' := 83) (st' := [dz_I (-1)]) rfl rfl ?_
                refine wq_ri rfl rfl ?_
                replace H := dz_sm H
                exact H
-- 138
def jf_M_isGutter (a1 : Int) (Z : dz_Z) : Option (Bool) := some (decide (0 ≤ dz_c a1 ∧ dz_c a1 ≤ dz_c ((Z 114 2 0) - 1)))
set_option maxRecDepth 20000 in
theorem jw_M_isGutter {X : Option (List Int32)} {D : Nat} {Q : Option Value → mm_H → Prop} (a1 : Int) (Z : dz_Z) (H : dz_p (jf_M_isGutter a1 Z) (fun q => Q (some (dz_B q)) (hz_0 Z))) : mm_Wp X (D + 1) mm_r138 0 [some (.ref 114), some (dz_I a1)] [] (hz_0 Z) Q := by
  unfold jf_M_isGutter at H
  refine wp_s (i := .iload_n 1) (n := 1) (pc' := 1) (st' := [dz_I a1]) rfl rfl ?_
  refine wq_3 (i := .i2l) (v' := dz_J (dz_c a1)) (pc' := 2) rfl rfl (oq_i2l' rfl) rfl ?_
  refine wp_s (i := .lconst 0) (n := 1) (pc' := 3) (st' := [dz_J 0, dz_J (dz_c a1)]) rfl rfl ?_
  refine wp_s (i := .aload_n 0) (n := 1) (pc' := 4) (st' := [.ref 114, dz_J 0, dz_J (dz_c a1)]) rfl rfl ?_
  refine wq_gi (idx := 167) (pc' := 7) rfl rfl ho_M rfl rfl ?_
  refine wp_s (i := .iconst 1) (n := 1) (pc' := 8) (st' := [dz_I 1, dz_I (Z 114 2 0), dz_J 0, dz_J (dz_c a1)]) rfl rfl ?_
  refine wq_2 (i := .isub) (z := (Z 114 2 0) - 1) (pc' := 9) rfl rfl (op_sub _ _) rfl ?_
  refine wq_3 (i := .i2l) (v' := dz_J (dz_c ((Z 114 2 0) - 1))) (pc' := 10) rfl rfl (oq_i2l' rfl) rfl ?_
  refine wq_cs (Dq := D) (r' := mm_r120) (as0 := [dz_J (dz_c a1), dz_J 0, dz_J (dz_c ((Z 114 2 0) - 1))]) (rest := []) (ls' := [some (dz_J (dz_c a1)), none, some (dz_J 0), none, some (dz_J (dz_c ((Z 114 2 0) - 1))), none]) (pc' := 13) rfl rfl (by decide) rfl rfl rfl rfl rfl ?_
  refine jw_in (a' := dz_c a1) (b' := 0) (c' := dz_c ((Z 114 2 0) - 1)) (dz_lc _) (by decide) (dz_lc _) ?_
  show mm_Wp X (D + 1) mm_r138 13 [some (.ref 114), some (dz_I a1)] [dz_B (decide (0 ≤ dz_c a1 ∧ dz_c a1 ≤ dz_c ((Z 114 2 0) - 1)))] (hz_0 Z) Q
  refine wq_rb rfl rfl ?_
  replace H := dz_sm H
  exact H
-- 139
def jf_M_isSpout (a1 : Int) (Z : dz_Z) : Option (Bool) := some (decide (0 ≤ dz_c a1 ∧ dz_c a1 ≤ dz_c ((Z 114 3 0) - 1)))
set_option maxRecDepth 20000 in
theorem jw_M_isSpout {X : Option (List Int32)} {D : Nat} {Q : Option Value → mm_H → Prop} (a1 : Int) (Z : dz_Z) (H : dz_p (jf_M_isSpout a1 Z) (fun q => Q (some (dz_B q)) (hz_0 Z))) : mm_Wp X (D + 1) mm_r139 0 [some (.ref 114), some (dz_I a1)] [] (hz_0 Z) Q := by
  unfold jf_M_isSpout at H
  refine wp_s (i := .iload_n 1) (n := 1) (pc' := 1) (st' := [dz_I a1]) rfl rfl ?_
  refine wq_3 (i := .i2l) (v' := dz_J (dz_c a1)) (pc' := 2) rfl rfl (oq_i2l' rfl) rfl ?_
  refine wp_s (i := .lconst 0) (n := 1) (pc' := 3) (st' := [dz_J 0, dz_J (dz_c a1)]) rfl rfl ?_
  refine wp_s (i := .aload_n 0) (n := 1) (pc' := 4) (st' := [.ref 114, dz_J 0, dz_J (dz_c a1)]) rfl rfl ?_
  refine wq_gi (idx := 170) (pc' := 7) rfl rfl ho_M rfl rfl ?_
  refine wp_s (i := .iconst 1) (n := 1) (pc' := 8) (st' := [dz_I 1, dz_I (Z 114 3 0), dz_J 0, dz_J (dz_c a1)]) rfl rfl ?_
  refine wq_2 (i := .isub) (z := (Z 114 3 0) - 1) (pc' := 9) rfl rfl (op_sub _ _) rfl ?_
  refine wq_3 (i := .i2l) (v' := dz_J (dz_c ((Z 114 3 0) - 1))) (pc' := 10) rfl rfl (oq_i2l' rfl) rfl ?_
  refine wq_cs (Dq := D) (r' := mm_r120) (as0 := [dz_J (dz_c a1), dz_J 0, dz_J (dz_c ((Z 114 3 0) - 1))]) (rest := []) (ls' := [some (dz_J (dz_c a1)), none, some (dz_J 0), none, some (dz_J (dz_c ((Z 114 3 0) - 1))), none]) (pc' := 13) rfl rfl (by decide) rfl rfl rfl rfl rfl ?_
  refine jw_in (a' := dz_c a1) (b' := 0) (c' := dz_c ((Z 114 3 0) - 1)) (dz_lc _) (by decide) (dz_lc _) ?_
  show mm_Wp X (D + 1) mm_r139 13 [some (.ref 114), some (dz_I a1)] [dz_B (decide (0 ≤ dz_c a1 ∧ dz_c a1 ≤ dz_c ((Z 114 3 0) - 1)))] (hz_0 Z) Q
  refine wq_rb rfl rfl ?_
  replace H := dz_sm H
  exact H
-- 140
def jf_M_isShower (a1 : Int) (Z : dz_Z) : Option (Bool) := some (decide (0 ≤ dz_c a1 ∧ dz_c a1 ≤ dz_c ((Z 114 4 0) - 1)))
set_option maxRecDepth 20000 in
theorem jw_M_isShower {X : Option (List Int32)} {D : Nat} {Q : Option Value → mm_H → Prop} (a1 : Int) (Z : dz_Z) (H : dz_p (jf_M_isShower a1 Z) (fun q => Q (some (dz_B q)) (hz_0 Z))) : mm_Wp X (D + 1) mm_r140 0 [some (.ref 114), some (dz_I a1)] [] (hz_0 Z) Q := by
  unfold jf_M_isShower at H
  refine wp_s (i := .iload_n 1) (n := 1) (pc' := 1) (st' := [dz_I a1]) rfl rfl ?_
  refine wq_3 (i := .i2l) (v' := dz_J (dz_c a1)) (pc' := 2) rfl rfl (oq_i2l' rfl) rfl ?_
  refine wp_s (i := .lconst 0) (n := 1) (pc' := 3) (st' := [dz_J 0, dz_J (dz_c a1)]) rfl rfl ?_
  refine wp_s (i := .aload_n 0) (n := 1) (pc' := 4) (st' := [.ref 114, dz_J 0, dz_J (dz_c a1)]) rfl rfl ?_
  refine wq_gi (idx := 173) (pc' := 7) rfl rfl ho_M rfl rfl ?_
  refine wp_s (i := .iconst 1) (n := 1) (pc' := 8) (st' := [dz_I 1, dz_I (Z 114 4 0), dz_J 0, dz_J (dz_c a1)]) rfl rfl ?_
  refine wq_2 (i := .isub) (z := (Z 114 4 0) - 1) (pc' := 9) rfl rfl (op_sub _ _) rfl ?_
  refine wq_3 (i := .i2l) (v' := dz_J (dz_c ((Z 114 4 0) - 1))) (pc' := 10) rfl rfl (oq_i2l' rfl) rfl ?_
  refine wq_cs (Dq := D) (r' := mm_r120) (as0 := [dz_J (dz_c a1), dz_J 0, dz_J (dz_c ((Z 114 4 0) - 1))]) (rest := []) (ls' := [some (dz_J (dz_c a1)), none, some (dz_J 0), none, some (dz_J (dz_c ((Z 114 4 0) - 1))), none]) (pc' := 13) rfl rfl (by decide) rfl rfl rfl rfl rfl ?_
  refine jw_in (a' := dz_c a1) (b' := 0) (c' := dz_c ((Z 114 4 0) - 1)) (dz_lc _) (by decide) (dz_lc _) ?_
  show mm_Wp X (D + 1) mm_r140 13 [some (.ref 114), some (dz_I a1)] [dz_B (decide (0 ≤ dz_c a1 ∧ dz_c a1 ≤ dz_c ((Z 114 4 0) - 1)))] (hz_0 Z) Q
  refine wq_rb rfl rfl ?_
  replace H := dz_sm H
  exact H
-- 141
def jf_M_gutter (a1 : Int) (a2 : Int) (Z : dz_Z) : Option (Int) := Option.bind (jf_M_isGutter a1 Z) fun q1 => if q1 = true then (if ¬(0 ≤ dz_c a2 ∧ dz_c a2 ≤ 1) then (if dz_c a2 ≠ 2 then (if dz_c a2 ≠ 3 then (some (-1)) else (if 0 ≤ dz_c (5 + a1) ∧ dz_c (5 + a1) < 700 then some (Z 114 0 (dz_c (5 + a1))) else none)) else (if 0 ≤ dz_c (0 + a1) ∧ dz_c (0 + a1) < 700 then some (Z 114 0 (dz_c (0 + a1))) else none)) else (if 0 ≤ dz_c ((2 * a1) + a2) ∧ dz_c ((2 * a1) + a2) < 10 then some (Z 114 8 (dz_c ((2 * a1) + a2))) else none)) else (some (-1))
set_option maxRecDepth 20000 in
theorem jw_M_gutter {X : Option (List Int32)} {D : Nat} {Q : Option Value → mm_H → Prop} (a1 : Int) (a2 : Int) (Z : dz_Z) (H : dz_p (jf_M_gutter a1 a2 Z) (fun q => Q (some (dz_I q)) (hz_0 Z))) : mm_Wp X (D + 2) mm_r141 0 [some (.ref 114), some (dz_I a1), some (dz_I a2)] [] (hz_0 Z) Q := by
  unfold jf_M_gutter at H
  refine wp_s (i := .aload_n 0) (n := 1) (pc' := 1) (st' := [.ref 114]) rfl rfl ?_
  refine wp_s (i := .iload_n 1) (n := 1) (pc' := 2) (st' := [dz_I a1, .ref 114]) rfl rfl ?_
  refine wq_cv (Dq := (D + 1)) (r' := mm_r138) (as0 := [dz_I a1]) (rest := []) (ls' := [some (.ref 114), some (dz_I a1)]) (pc' := 5) rfl rfl rfl rfl ho_M rfl rfl rfl ?_
  refine jw_M_isGutter (X := X) (D := D + 0) a1 Z (dz_pm (dz_bi H) (fun q1 H => ?_))
  show mm_Wp X (D + 2) mm_r141 5 [some (.ref 114), some (dz_I a1), some (dz_I a2)] [dz_B q1] (hz_0 Z) Q
  refine wq_if (p := q1 = true) (tt := 10) (pc' := 8) rfl rfl (cb_ne) rfl (fun c2 => ?_) (fun c2 => ?_)
  · replace H := dz_it c2 H
    refine wp_s (i := .iload_n 2) (n := 1) (pc' := 11) (st' := [dz_I a2]) rfl rfl ?_
    refine wq_3 (i := .i2l) (v' := dz_J (dz_c a2)) (pc' := 12) rfl rfl (oq_i2l' rfl) rfl ?_
    refine wp_s (i := .lconst 0) (n := 1) (pc' := 13) (st' := [dz_J 0, dz_J (dz_c a2)]) rfl rfl ?_
    refine wp_s (i := .lconst 1) (n := 1) (pc' := 14) (st' := [dz_J 1, dz_J 0, dz_J (dz_c a2)]) rfl rfl ?_
    refine wq_cs (Dq := (D + 1)) (r' := mm_r120) (as0 := [dz_J (dz_c a2), dz_J 0, dz_J 1]) (rest := []) (ls' := [some (dz_J (dz_c a2)), none, some (dz_J 0), none, some (dz_J 1), none]) (pc' := 17) rfl rfl (by decide) rfl rfl rfl rfl rfl ?_
    refine jw_in (a' := dz_c a2) (b' := 0) (c' := 1) (dz_lc _) (by decide) (by decide) ?_
    show mm_Wp X (D + 2) mm_r141 17 [some (.ref 114), some (dz_I a1), some (dz_I a2)] [dz_B (decide (0 ≤ dz_c a2 ∧ dz_c a2 ≤ 1))] (hz_0 Z) Q
    refine wq_if (p := ¬(0 ≤ dz_c a2 ∧ dz_c a2 ≤ 1)) (tt := 33) (pc' := 20) rfl rfl (cd_eq) rfl (fun c3 => ?_) (fun c3 => ?_)
    · replace H := dz_it c3 H
      refine wp_s (i := .iload_n 2) (n := 1) (pc' := 34) (st' := [dz_I a2]) rfl rfl ?_
      refine wp_s (i := .iconst 2) (n := 1) (pc' := 35) (st' := [dz_I 2, dz_I a2]) rfl rfl ?_
      refine wq_ic (p := dz_c a2 ≠ 2) (tt := 49) (pc' := 38) rfl rfl (cq_ne rfl dk_2) rfl (fun c4 => ?_) (fun c4 => ?_)
      · replace H := dz_it c4 H
        refine wp_s (i := .iload_n 2) (n := 1) (pc' := 50) (st' := [dz_I a2]) rfl rfl ?_
        refine wp_s (i := .iconst 3) (n := 1) (pc' := 51) (st' := [dz_I 3, dz_I a2]) rfl rfl ?_
        refine wq_ic (p := dz_c a2 ≠ 3) (tt := 65) (pc' := 54) rfl rfl (cq_ne rfl dk_3) rfl (fun c5 => ?_) (fun c5 => ?_)
        · replace H := dz_it c5 H
          refine wp_s (i := .iconst (-1)) (n := 1) (pc' := 66) (st' := [dz_I (-1)]) rfl rfl ?_
          refine wq_ri rfl rfl ?_
          replace H := dz_sm H
          exact H
        · replace H := dz_if c5 H
          refine wp_s (i := .aload_n 0) (n := 1) (pc' := 55) (st' := [.ref 114]) rfl rfl ?_
          refine wq_gr (idx := 7) (a := 115) (pc' := 58) rfl rfl ho_M rfl rfl ?_
          refine wp_s (i := .iconst 5) (n := 1) (pc' := 59) (st' := [dz_I 5, .ref 115]) rfl rfl ?_
          refine wp_s (i := .iload_n 1) (n := 1) (pc' := 60) (st' := [dz_I a1, dz_I 5, .ref 115]) rfl rfl ?_
          refine wq_2 (i := .iadd) (z := 5 + a1) (pc' := 61) rfl rfl (op_add _ _) rfl ?_
          obtain ⟨k6, H⟩ := dz_ck H
          refine wq_ia (j' := dz_c (5 + a1)) (pc' := 62) rfl ha_M_0 rfl k6.1 k6.2 rfl ?_
          refine wp_s (i := .goto 4) (n := 3) (pc' := 66) (st' := [dz_I (Z 114 0 (dz_c (5 + a1)))]) rfl rfl ?_
          refine wq_ri rfl rfl ?_
          replace H := dz_sm H
          exact H
      · replace H := dz_if c4 H
        refine wp_s (i := .aload_n 0) (n := 1) (pc' := 39) (st' := [.ref 114]) rfl rfl ?_
        refine wq_gr (idx := 7) (a := 115) (pc' := 42) rfl rfl ho_M rfl rfl ?_
        refine wp_s (i := .iconst 0) (n := 1) (pc' := 43) (st' := [dz_I 0, .ref 115]) rfl rfl ?_
        refine wp_s (i := .iload_n 1) (n := 1) (pc' := 44) (st' := [dz_I a1, dz_I 0, .ref 115]) rfl rfl ?_
        refine wq_2 (i := .iadd) (z := 0 + a1) (pc' := 45) rfl rfl (op_add _ _) rfl ?_
        obtain ⟨k7, H⟩ := dz_ck H
        refine wq_ia (j' := dz_c (0 + a1)) (pc' := 46) rfl ha_M_0 rfl k7.1 k7.2 rfl ?_
        refine wp_s (i := .goto 20) (n := 3) (pc' := 66) (st' := [dz_I (Z 114 0 (dz_c (0 + a1)))]) rfl rfl ?_
        refine wq_ri rfl rfl ?_
        replace H := dz_sm H
        exact H
    · replace H := dz_if c3 H
      refine wp_s (i := .aload_n 0) (n := 1) (pc' := 21) (st' := [.ref 114]) rfl rfl ?_
      refine wq_gr (idx := 16) (a := 117) (pc' := 24) rfl rfl ho_M rfl rfl ?_
      refine wp_s (i := .iconst 2) (n := 1) (pc' := 25) (st' := [dz_I 2, .ref 117]) rfl rfl ?_
      refine wp_s (i := .iload_n 1) (n := 1) (pc' := 26) (st' := [dz_I a1, dz_I 2, .ref 117]) rfl rfl ?_
      refine wq_2 (i := .imul) (z := 2 * a1) (pc' := 27) rfl rfl (op_mul _ _) rfl ?_
      refine wp_s (i := .iload_n 2) (n := 1) (pc' := 28) (st' := [dz_I a2, dz_I (2 * a1), .ref 117]) rfl rfl ?_
      refine wq_2 (i := .iadd) (z := (2 * a1) + a2) (pc' := 29) rfl rfl (op_add _ _) rfl ?_
      obtain ⟨k8, H⟩ := dz_ck H
      refine wq_ia (j' := dz_c ((2 * a1) + a2)) (pc' := 30) rfl ha_M_8 rfl k8.1 k8.2 rfl ?_
      refine wp_s (i := .goto 36) (n := 3) (pc' := 66) (st' := [dz_I (Z 114 8 (dz_c ((2 * a1) + a2)))]) rfl rfl ?_
      refine wq_ri rfl rfl ?_
      replace H := dz_sm H
      exact H
  · replace H := dz_if c2 H
    refine wp_s (i := .iconst (-1)) (n := 1) (pc' := 9) (st' := [dz_I (-1)]) rfl rfl ?_
    refine wq_ri rfl rfl ?_
    replace H := dz_sm H
    exact H
-- 142
def jf_M_spout (a1 : Int) (a2 : Int) (Z : dz_Z) : Option (Int) := Option.bind (jf_M_isSpout a1 Z) fun q1 => if q1 = true then (if dz_c a2 = 0 then (if 0 ≤ dz_c a1 ∧ dz_c a1 < 8 then some (Z 114 9 (dz_c a1)) else none) else (if dz_c a2 = 1 then (if 0 ≤ dz_c (10 + a1) ∧ dz_c (10 + a1) < 700 then some (Z 114 0 (dz_c (10 + a1))) else none) else (if dz_c a2 = 2 then (if 0 ≤ dz_c (18 + a1) ∧ dz_c (18 + a1) < 700 then some (Z 114 0 (dz_c (18 + a1))) else none) else (if dz_c a2 = 3 then (if 0 ≤ dz_c (26 + a1) ∧ dz_c (26 + a1) < 700 then some (Z 114 0 (dz_c (26 + a1))) else none) else (if dz_c a2 = 4 then (if 0 ≤ dz_c (86 + a1) ∧ dz_c (86 + a1) < 700 then some (Z 114 0 (dz_c (86 + a1))) else none) else (if dz_c a2 = 5 then (if 0 ≤ dz_c (102 + a1) ∧ dz_c (102 + a1) < 700 then some (Z 114 0 (dz_c (102 + a1))) else none) else (if dz_c a2 = 6 then (if 0 ≤ dz_c (118 + a1) ∧ dz_c (118 + a1) < 700 then some (Z 114 0 (dz_c (118 + a1))) else none) else (if dz_c a2 = 7 then (if 0 ≤ dz_c (110 + a1) ∧ dz_c (110 + a1) < 700 then some (Z 114 0 (dz_c (110 + a1))) else none) else (some (-1)))))))))) else (some (-1))
set_option maxRecDepth 20000 in
theorem jw_M_spout {X : Option (List Int32)} {D : Nat} {Q : Option Value → mm_H → Prop} (a1 : Int) (a2 : Int) (Z : dz_Z) (H : dz_p (jf_M_spout a1 a2 Z) (fun q => Q (some (dz_I q)) (hz_0 Z))) : mm_Wp X (D + 2) mm_r142 0 [some (.ref 114), some (dz_I a1), some (dz_I a2)] [] (hz_0 Z) Q := by
  unfold jf_M_spout at H
  refine wp_s (i := .aload_n 0) (n := 1) (pc' := 1) (st' := [.ref 114]) rfl rfl ?_
  refine wp_s (i := .iload_n 1) (n := 1) (pc' := 2) (st' := [dz_I a1, .ref 114]) rfl rfl ?_
  refine wq_cv (Dq := (D + 1)) (r' := mm_r139) (as0 := [dz_I a1]) (rest := []) (ls' := [some (.ref 114), some (dz_I a1)]) (pc' := 5) rfl rfl rfl rfl ho_M rfl rfl rfl ?_
  refine jw_M_isSpout (X := X) (D := D + 0) a1 Z (dz_pm (dz_bi H) (fun q1 H => ?_))
  show mm_Wp X (D + 2) mm_r142 5 [some (.ref 114), some (dz_I a1), some (dz_I a2)] [dz_B q1] (hz_0 Z) Q
  refine wq_if (p := q1 = true) (tt := 10) (pc' := 8) rfl rfl (cb_ne) rfl (fun c2 => ?_) (fun c2 => ?_)
  · replace H := dz_it c2 H
    refine wp_s (i := .iload_n 2) (n := 1) (pc' := 11) (st' := [dz_I a2]) rfl rfl ?_
    by_cases c3 : dz_c a2 = 0
    · replace H := dz_it c3 H
      refine wq_ts (x' := dz_c a2) (tt := 56) rfl rfl (by rw [c3]; rfl) ?_
      refine wp_s (i := .aload_n 0) (n := 1) (pc' := 57) (st' := [.ref 114]) rfl rfl ?_
      refine wq_gr (idx := 19) (a := 118) (pc' := 60) rfl rfl ho_M rfl rfl ?_
      refine wp_s (i := .iload_n 1) (n := 1) (pc' := 61) (st' := [dz_I a1, .ref 118]) rfl rfl ?_
      obtain ⟨k4, H⟩ := dz_ck H
      refine wq_ia (j' := dz_c a1) (pc' := 62) rfl ha_M_9 rfl k4.1 k4.2 rfl ?_
      refine wq_ri rfl rfl ?_
      replace H := dz_sm H
      exact H
    · replace H := dz_if c3 H
      by_cases c5 : dz_c a2 = 1
      · replace H := dz_it c5 H
        refine wq_ts (x' := dz_c a2) (tt := 63) rfl rfl (by rw [c5]; rfl) ?_
        refine wp_s (i := .aload_n 0) (n := 1) (pc' := 64) (st' := [.ref 114]) rfl rfl ?_
        refine wq_gr (idx := 7) (a := 115) (pc' := 67) rfl rfl ho_M rfl rfl ?_
        refine wp_s (i := .bipush 10) (n := 2) (pc' := 69) (st' := [dz_I 10, .ref 115]) rfl rfl ?_
        refine wp_s (i := .iload_n 1) (n := 1) (pc' := 70) (st' := [dz_I a1, dz_I 10, .ref 115]) rfl rfl ?_
        refine wq_2 (i := .iadd) (z := 10 + a1) (pc' := 71) rfl rfl (op_add _ _) rfl ?_
        obtain ⟨k6, H⟩ := dz_ck H
        refine wq_ia (j' := dz_c (10 + a1)) (pc' := 72) rfl ha_M_0 rfl k6.1 k6.2 rfl ?_
        refine wq_ri rfl rfl ?_
        replace H := dz_sm H
        exact H
      · replace H := dz_if c5 H
        by_cases c7 : dz_c a2 = 2
        · replace H := dz_it c7 H
          refine wq_ts (x' := dz_c a2) (tt := 73) rfl rfl (by rw [c7]; rfl) ?_
          refine wp_s (i := .aload_n 0) (n := 1) (pc' := 74) (st' := [.ref 114]) rfl rfl ?_
          refine wq_gr (idx := 7) (a := 115) (pc' := 77) rfl rfl ho_M rfl rfl ?_
          refine wp_s (i := .bipush 18) (n := 2) (pc' := 79) (st' := [dz_I 18, .ref 115]) rfl rfl ?_
          refine wp_s (i := .iload_n 1) (n := 1) (pc' := 80) (st' := [dz_I a1, dz_I 18, .ref 115]) rfl rfl ?_
          refine wq_2 (i := .iadd) (z := 18 + a1) (pc' := 81) rfl rfl (op_add _ _) rfl ?_
          obtain ⟨k8, H⟩ := dz_ck H
          refine wq_ia (j' := dz_c (18 + a1)) (pc' := 82) rfl ha_M_0 rfl k8.1 k8.2 rfl ?_
          refine wq_ri rfl rfl ?_
          replace H := dz_sm H
          exact H
        · replace H := dz_if c7 H
          by_cases c9 : dz_c a2 = 3
          · replace H := dz_it c9 H
            refine wq_ts (x' := dz_c a2) (tt := 83) rfl rfl (by rw [c9]; rfl) ?_
            refine wp_s (i := .aload_n 0) (n := 1) (pc' := 84) (st' := [.ref 114]) rfl rfl ?_
            refine wq_gr (idx := 7) (a := 115) (pc' := 87) rfl rfl ho_M rfl rfl ?_
            refine wp_s (i := .bipush 26) (n := 2) (pc' := 89) (st' := [dz_I 26, .ref 115]) rfl rfl ?_
            refine wp_s (i := .iload_n 1) (n := 1) (pc' := 90) (st' := [dz_I a1, dz_I 26, .ref 115]) rfl rfl ?_
            refine wq_2 (i := .iadd) (z := 26 + a1) (pc' := 91) rfl rfl (op_add _ _) rfl ?_
            obtain ⟨k10, H⟩ := dz_ck H
            refine wq_ia (j' := dz_c (26 + a1)) (pc' := 92) rfl ha_M_0 rfl k10.1 k10.2 rfl ?_
            refine wq_ri rfl rfl ?_
            replace H := dz_sm H
            exact H
          · replace H := dz_if c9 H
            by_cases c11 : dz_c a2 = 4
            · replace H := dz_it c11 H
              refine wq_ts (x' := dz_c a2) (tt := 93) rfl rfl (by rw [c11]; rfl) ?_
              refine wp_s (i := .aload_n 0) (n := 1) (pc' := 94) (st' := [.ref 114]) rfl rfl ?_
              refine wq_gr (idx := 7) (a := 115) (pc' := 97) rfl rfl ho_M rfl rfl ?_
              refine wp_s (i := .bipush 86) (n := 2) (pc' := 99) (st' := [dz_I 86, .ref 115]) rfl rfl ?_
              refine wp_s (i := .iload_n 1) (n := 1) (pc' := 100) (st' := [dz_I a1, dz_I 86, .ref 115]) rfl rfl ?_
              refine wq_2 (i := .iadd) (z := 86 + a1) (pc' := 101) rfl rfl (op_add _ _) rfl ?_
              obtain ⟨k12, H⟩ := dz_ck H
              refine wq_ia (j' := dz_c (86 + a1)) (pc' := 102) rfl ha_M_0 rfl k12.1 k12.2 rfl ?_
              refine wq_ri rfl rfl ?_
              replace H := dz_sm H
              exact H
            · replace H := dz_if c11 H
              by_cases c13 : dz_c a2 = 5
              · replace H := dz_it c13 H
                refine wq_ts (x' := dz_c a2) (tt := 103) rfl rfl (by rw [c13]; rfl) ?_
                refine wp_s (i := .aload_n 0) (n := 1) (pc' := 104) (st' := [.ref 114]) rfl rfl ?_
                refine wq_gr (idx := 7) (a := 115) (pc' := 107) rfl rfl ho_M rfl rfl ?_
                refine wp_s (i := .bipush 102) (n := 2) (pc' := 109) (st' := [dz_I 102, .ref 115]) rfl rfl ?_
                refine wp_s (i := .iload_n 1) (n := 1) (pc' := 110) (st' := [dz_I a1, dz_I 102, .ref 115]) rfl rfl ?_
                refine wq_2 (i := .iadd) (z := 102 + a1) (pc' := 111) rfl rfl (op_add _ _) rfl ?_
                obtain ⟨k14, H⟩ := dz_ck H
                refine wq_ia (j' := dz_c (102 + a1)) (pc' := 112) rfl ha_M_0 rfl k14.1 k14.2 rfl ?_
                refine wq_ri rfl rfl ?_
                replace H := dz_sm H
                exact H
              · replace H := dz_if c13 H
                by_cases c15 : dz_c a2 = 6
                · replace H := dz_it c15 H
                  refine wq_ts (x' := dz_c a2) (tt := 113) rfl rfl (by rw [c15]; rfl) ?_
                  refine wp_s (i := .aload_n 0) (n := 1) (pc' := 114) (st' := [.ref 114]) rfl rfl ?_
                  refine wq_gr (idx := 7) (a := 115) (pc' := 117) rfl rfl ho_M rfl rfl ?_
                  refine wp_s (i := .bipush 118) (n := 2) (pc' := 119) (st' := [dz_I 118, .ref 115]) rfl rfl ?_
                  refine wp_s (i := .iload_n 1) (n := 1) (pc' := 120) (st' := [dz_I a1, dz_I 118, .ref 115]) rfl rfl ?_
                  refine wq_2 (i := .iadd) (z := 118 + a1) (pc' := 121) rfl rfl (op_add _ _) rfl ?_
                  obtain ⟨k16, H⟩ := dz_ck H
                  refine wq_ia (j' := dz_c (118 + a1)) (pc' := 122) rfl ha_M_0 rfl k16.1 k16.2 rfl ?_
                  refine wq_ri rfl rfl ?_
                  replace H := dz_sm H
                  exact H
                · replace H := dz_if c15 H
                  by_cases c17 : dz_c a2 = 7
                  · replace H := dz_it c17 H
                    refine wq_ts (x' := dz_c a2) (tt := 123) rfl rfl (by rw [c17]; rfl) ?_
                    refine wp_s (i := .aload_n 0) (n := 1) (pc' := 124) (st' := [.ref 114]) rfl rfl ?_
                    refine wq_gr (idx := 7) (a := 115) (pc' := 127) rfl rfl ho_M rfl rfl ?_
                    refine wp_s (i := .bipush 110) (n := 2) (pc' := 129) (st' := [dz_I 110, .ref 115]) rfl rfl ?_
                    refine wp_s (i := .iload_n 1) (n := 1) (pc' := 130) (st' := [dz_I a1, dz_I 110, .ref 115]) rfl rfl ?_
                    refine wq_2 (i := .iadd) (z := 110 + a1) (pc' := 131) rfl rfl (op_add _ _) rfl ?_
                    obtain ⟨k18, H⟩ := dz_ck H
                    refine wq_ia (j' := dz_c (110 + a1)) (pc' := 132) rfl ha_M_0 rfl k18.1 k18.2 rfl ?_
                    refine wq_ri rfl rfl ?_
                    replace H := dz_sm H
                    exact H
                  · replace H := dz_if c17 H
                    refine wq_ts (x' := dz_c a2) (tt := 133) rfl rfl (by unfold mm_sw; rw [if_pos (by omega)]; rfl) ?_
                    refine wp_s (i := .iconst (-1)) (n := 1) (pc' := 134) (st' := [dz_I (-1)]) rfl rfl ?_
                    refine wq_ri rfl rfl ?_
                    replace H := dz_sm H
                    exact H
  · replace H := dz_if c2 H
    refine wp_s (i := .iconst (-1)) (n := 1) (pc' := 9) (st' := [dz_I (-1)]) rfl rfl ?_
    refine wq_ri rfl rfl ?_
    replace H := dz_sm H
    exact H
