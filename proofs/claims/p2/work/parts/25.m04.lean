-- 37
def jf_R_readLine (Z : dz_Z) : Option (Bool × dz_Z) := Option.bind (jf_R_nextToken Z) fun q1 => if q1.1 = true then (if dz_c (q1.2 1 8 0) ≠ 1 then (if dz_c (q1.2 1 8 0) = 2 then (Option.bind (jf_R_isNamed 0 q1.2) fun q5 => if q5 = false then (Option.bind (jf_R_isNamed 1 q1.2) fun q7 => if q7 = false then (Option.bind (jf_R_isNamed 3 q1.2) fun q9 => if q9 = false then (Option.bind (jf_R_isNamed 11 q1.2) fun q11 => if q11 = false then (Option.bind (jf_R_isNamed 12 q1.2) fun q13 => if q13 = false then (Option.bind (jf_R_isNamed 13 q1.2) fun q15 => if q15 = false then (Option.bind (jf_R_isNamed 14 q1.2) fun q17 => if q17 = false then (Option.bind (jf_R_fail 2 q1.2) fun q19 => some (q19.1, q19.2)) else (Option.bind (jf_R_readWear q1.2) fun q20 => some (q20.1, q20.2))) else (Option.bind (jf_R_readSleep q1.2) fun q21 => some (q21.1, q21.2))) else (Option.bind (jf_R_readTune q1.2) fun q22 => some (q22.1, q22.2))) else (Option.bind (jf_R_readRain q1.2) fun q23 => some (q23.1, q23.2))) else (Option.bind (jf_R_readSpout q1.2) fun q24 => some (q24.1, q24.2))) else (Option.bind (jf_R_readPeg q1.2) fun q25 => some (q25.1, q25.2))) else (Option.bind (jf_R_readRoof q1.2) fun q26 => some (q26.1, q26.2))) else (Option.bind (jf_R_fail 2 q1.2) fun q27 => some (q27.1, q27.2))) else (Option.bind (jf_R_allPartsAreThere q1.2) fun q28 => if q28 = true then (some (false, q1.2)) else (Option.bind (jf_R_fail 6 q1.2) fun q30 => some (false, q30.2)))) else (some (false, q1.2))
set_option maxRecDepth 20000 in
theorem jw_R_readLine {X : Option (List Int32)} {D : Nat} {Q : Option Value → mm_H → Prop} (Z : dz_Z) (H : dz_p (jf_R_readLine Z) (fun q => Q (some (dz_B q.1)) (hz_0 q.2))) : mm_Wp X (D + 8) mm_r37 0 [some (.ref 1)] [] (hz_0 Z) Q := by
  unfold jf_R_readLine at H
  refine wp_s (i := .aload_n 0) (n := 1) (pc' := 1) (st' := [.ref 1]) rfl rfl ?_
  refine wq_cv (Dq := (D + 7)) (r' := mm_r31) (as0 := []) (rest := []) (ls' := [some (.ref 1), none]) (pc' := 4) rfl rfl rfl rfl ho_R rfl rfl rfl ?_
  refine jw_R_nextToken (X := X) (D := D + 6) Z (dz_pm (dz_bi H) (fun q1 H => ?_))
  show mm_Wp X (D + 8) mm_r37 4 [some (.ref 1)] [dz_B q1.1] (hz_0 q1.2) Q
  refine wq_if (p := q1.1 = true) (tt := 9) (pc' := 7) rfl rfl (cb_ne) rfl (fun c2 => ?_) (fun c2 => ?_)
  · replace H := dz_it c2 H
    refine wp_s (i := .aload_n 0) (n := 1) (pc' := 10) (st' := [.ref 1]) rfl rfl ?_
    refine wq_gi (idx := 64) (pc' := 13) rfl rfl ho_R rfl rfl ?_
    refine wp_s (i := .iconst 1) (n := 1) (pc' := 14) (st' := [dz_I 1, dz_I (q1.2 1 8 0)]) rfl rfl ?_
    refine wq_ic (p := dz_c (q1.2 1 8 0) ≠ 1) (tt := 33) (pc' := 17) rfl rfl (cq_ne rfl dk_1) rfl (fun c3 => ?_) (fun c3 => ?_)
    · replace H := dz_it c3 H
      refine wp_s (i := .aload_n 0) (n := 1) (pc' := 34) (st' := [.ref 1]) rfl rfl ?_
      refine wq_gi (idx := 64) (pc' := 37) rfl rfl ho_R rfl rfl ?_
      refine wp_s (i := .iconst 2) (n := 1) (pc' := 38) (st' := [dz_I 2, dz_I (q1.2 1 8 0)]) rfl rfl ?_
      refine wq_ic (p := dz_c (q1.2 1 8 0) = 2) (tt := 47) (pc' := 41) rfl rfl (cq_eq rfl dk_2) rfl (fun c4 => ?_) (fun c4 => ?_)
      · replace H := dz_it c4 H
        refine wp_s (i := .aload_n 0) (n := 1) (pc' := 48) (st' := [.ref 1]) rfl rfl ?_
        refine wp_s (i := .ldc 93) (n := 2) (pc' := 50) (st' := [.retAddr (1 + 0), .ref 1]) rfl rfl ?_
        refine wq_cv (Dq := (D + 7)) (r' := mm_r34) (as0 := [.retAddr (1 + 0)]) (rest := []) (ls' := [some (.ref 1), some (.retAddr (1 + 0)), none]) (pc' := 53) rfl rfl rfl rfl ho_R rfl rfl rfl ?_
        refine jw_R_isNamed (X := X) (D := D + 3) 0 (by decide) q1.2 (dz_pm (dz_bi H) (fun q5 H => ?_))
        show mm_Wp X (D + 8) mm_r37 53 [some (.ref 1)] [dz_B q5] (hz_0 q1.2) Q
        refine wq_if (p := q5 = false) (tt := 61) (pc' := 56) rfl rfl (cb_eq) rfl (fun c6 => ?_) (fun c6 => ?_)
        · replace H := dz_it c6 H
          refine wp_s (i := .aload_n 0) (n := 1) (pc' := 62) (st' := [.ref 1]) rfl rfl ?_
          refine wp_s (i := .ldc 102) (n := 2) (pc' := 64) (st' := [.retAddr (1 + 1), .ref 1]) rfl rfl ?_
          refine wq_cv (Dq := (D + 7)) (r' := mm_r34) (as0 := [.retAddr (1 + 1)]) (rest := []) (ls' := [some (.ref 1), some (.retAddr (1 + 1)), none]) (pc' := 67) rfl rfl rfl rfl ho_R rfl rfl rfl ?_
          refine jw_R_isNamed (X := X) (D := D + 3) 1 (by decide) q1.2 (dz_pm (dz_bi H) (fun q7 H => ?_))
          show mm_Wp X (D + 8) mm_r37 67 [some (.ref 1)] [dz_B q7] (hz_0 q1.2) Q
          refine wq_if (p := q7 = false) (tt := 75) (pc' := 70) rfl rfl (cb_eq) rfl (fun c8 => ?_) (fun c8 => ?_)
          · replace H := dz_it c8 H
            refine wp_s (i := .aload_n 0) (n := 1) (pc' := 76) (st' := [.ref 1]) rfl rfl ?_
            refine wp_s (i := .ldc 107) (n := 2) (pc' := 78) (st' := [.retAddr (1 + 3), .ref 1]) rfl rfl ?_
            refine wq_cv (Dq := (D + 7)) (r' := mm_r34) (as0 := [.retAddr (1 + 3)]) (rest := []) (ls' := [some (.ref 1), some (.retAddr (1 + 3)), none]) (pc' := 81) rfl rfl rfl rfl ho_R rfl rfl rfl ?_
            refine jw_R_isNamed (X := X) (D := D + 3) 3 (by decide) q1.2 (dz_pm (dz_bi H) (fun q9 H => ?_))
            show mm_Wp X (D + 8) mm_r37 81 [some (.ref 1)] [dz_B q9] (hz_0 q1.2) Q
            refine wq_if (p := q9 = false) (tt := 89) (pc' := 84) rfl rfl (cb_eq) rfl (fun c10 => ?_) (fun c10 => ?_)
            · replace H := dz_it c10 H
              refine wp_s (i := .aload_n 0) (n := 1) (pc' := 90) (st' := [.ref 1]) rfl rfl ?_
              refine wp_s (i := .ldc 112) (n := 2) (pc' := 92) (st' := [.retAddr (1 + 11), .ref 1]) rfl rfl ?_
              refine wq_cv (Dq := (D + 7)) (r' := mm_r34) (as0 := [.retAddr (1 + 11)]) (rest := []) (ls' := [some (.ref 1), some (.retAddr (1 + 11)), none]) (pc' := 95) rfl rfl rfl rfl ho_R rfl rfl rfl ?_
              refine jw_R_isNamed (X := X) (D := D + 3) 11 (by decide) q1.2 (dz_pm (dz_bi H) (fun q11 H => ?_))
              show mm_Wp X (D + 8) mm_r37 95 [some (.ref 1)] [dz_B q11] (hz_0 q1.2) Q
              refine wq_if (p := q11 = false) (tt := 103) (pc' := 98) rfl rfl (cb_eq) rfl (fun c12 => ?_) (fun c12 => ?_)
              · replace H := dz_it c12 H
                refine wp_s (i := .aload_n 0) (n := 1) (pc' := 104) (st' := [.ref 1]) rfl rfl ?_
                refine wp_s (i := .ldc 117) (n := 2) (pc' := 106) (st' := [.retAddr (1 + 12), .ref 1]) rfl rfl ?_
                refine wq_cv (Dq := (D + 7)) (r' := mm_r34) (as0 := [.retAddr (1 + 12)]) (rest := []) (ls' := [some (.ref 1), some (.retAddr (1 + 12)), none]) (pc' := 109) rfl rfl rfl rfl ho_R rfl rfl rfl ?_
                refine jw_R_isNamed (X := X) (D := D + 3) 12 (by decide) q1.2 (dz_pm (dz_bi H) (fun q13 H => ?_))
                show mm_Wp X (D + 8) mm_r37 109 [some (.ref 1)] [dz_B q13] (hz_0 q1.2) Q
                refine wq_if (p := q13 = false) (tt := 117) (pc' := 112) rfl rfl (cb_eq) rfl (fun c14 => ?_) (fun c14 => ?_)
                · replace H := dz_it c14 H
                  refine wp_s (i := .aload_n 0) (n := 1) (pc' := 118) (st' := [.ref 1]) rfl rfl ?_
                  refine wp_s (i := .ldc 122) (n := 2) (pc' := 120) (st' := [.retAddr (1 + 13), .ref 1]) rfl rfl ?_
                  refine wq_cv (Dq := (D + 7)) (r' := mm_r34) (as0 := [.retAddr (1 + 13)]) (rest := []) (ls' := [some (.ref 1), some (.retAddr (1 + 13)), none]) (pc' := 123) rfl rfl rfl rfl ho_R rfl rfl rfl ?_
                  refine jw_R_isNamed (X := X) (D := D + 3) 13 (by decide) q1.2 (dz_pm (dz_bi H) (fun q15 H => ?_))
                  show mm_Wp X (D + 8) mm_r37 123 [some (.ref 1)] [dz_B q15] (hz_0 q1.2) Q
                  refine wq_if (p := q15 = false) (tt := 131) (pc' := 126) rfl rfl (cb_eq) rfl (fun c16 => ?_) (fun c16 => ?_)
                  · replace H := dz_it c16 H
                    refine wp_s (i := .aload_n 0) (n := 1) (pc' := 132) (st' := [.ref 1]) rfl rfl ?_
                    refine wp_s (i := .ldc 127) (n := 2) (pc' := 134) (st' := [.retAddr (1 + 14), .ref 1]) rfl rfl ?_
                    refine wq_cv (Dq := (D + 7)) (r' := mm_r34) (as0 := [.retAddr (1 + 14)]) (rest := []) (ls' := [some (.ref 1), some (.retAddr (1 + 14)), none]) (pc' := 137) rfl rfl rfl rfl ho_R rfl rfl rfl ?_
                    refine jw_R_isNamed (X := X) (D := D + 3) 14 (by decide) q1.2 (dz_pm (dz_bi H) (fun q17 H => ?_))
                    show mm_Wp X (D + 8) mm_r37 137 [some (.ref 1)] [dz_B q17] (hz_0 q1.2) Q
                    refine wq_if (p := q17 = false) (tt := 145) (pc' := 140) rfl rfl (cb_eq) rfl (fun c18 => ?_) (fun c18 => ?_)
                    · replace H := dz_it c18 H
                      refine wp_s (i := .aload_n 0) (n := 1) (pc' := 146) (st' := [.ref 1]) rfl rfl ?_
                      refine wp_s (i := .iconst 2) (n := 1) (pc' := 147) (st' := [dz_I 2, .ref 1]) rfl rfl ?_
                      refine wq_cv (Dq := (D + 7)) (r' := mm_r30) (as0 := [dz_I 2]) (rest := []) (ls' := [some (.ref 1), some (dz_I 2)]) (pc' := 150) rfl rfl rfl rfl ho_R rfl rfl rfl ?_
                      refine jw_R_fail (X := X) (D := D + 7) 2 q1.2 (dz_pm (dz_bi H) (fun q19 H => ?_))
                      show mm_Wp X (D + 8) mm_r37 150 [some (.ref 1)] [dz_B q19.1] (hz_0 q19.2) Q
                      refine wq_rb rfl rfl ?_
                      replace H := dz_sm H
                      exact H
                    · replace H := dz_if c18 H
                      refine wp_s (i := .aload_n 0) (n := 1) (pc' := 141) (st' := [.ref 1]) rfl rfl ?_
                      refine wq_cv (Dq := (D + 7)) (r' := mm_r49) (as0 := []) (rest := []) (ls' := [some (.ref 1)]) (pc' := 144) rfl rfl rfl rfl ho_R rfl rfl rfl ?_
                      refine jw_R_readWear (X := X) (D := D + 4) q1.2 (dz_pm (dz_bi H) (fun q20 H => ?_))
                      show mm_Wp X (D + 8) mm_r37 144 [some (.ref 1)] [dz_B q20.1] (hz_0 q20.2) Q
                      refine wq_rb rfl rfl ?_
                      replace H := dz_sm H
                      exact H
                  · replace H := dz_if c16 H
                    refine wp_s (i := .aload_n 0) (n := 1) (pc' := 127) (st' := [.ref 1]) rfl rfl ?_
                    refine wq_cv (Dq := (D + 7)) (r' := mm_r48) (as0 := []) (rest := []) (ls' := [some (.ref 1), none]) (pc' := 130) rfl rfl rfl rfl ho_R rfl rfl rfl ?_
                    refine jw_R_readSleep (X := X) (D := D + 4) q1.2 (dz_pm (dz_bi H) (fun q21 H => ?_))
                    show mm_Wp X (D + 8) mm_r37 130 [some (.ref 1)] [dz_B q21.1] (hz_0 q21.2) Q
                    refine wq_rb rfl rfl ?_
                    replace H := dz_sm H
                    exact H
                · replace H := dz_if c14 H
                  refine wp_s (i := .aload_n 0) (n := 1) (pc' := 113) (st' := [.ref 1]) rfl rfl ?_
                  refine wq_cv (Dq := (D + 7)) (r' := mm_r45) (as0 := []) (rest := []) (ls' := [some (.ref 1)]) (pc' := 116) rfl rfl rfl rfl ho_R rfl rfl rfl ?_
                  refine jw_R_readTune (X := X) (D := D + 3) q1.2 (dz_pm (dz_bi H) (fun q22 H => ?_))
                  show mm_Wp X (D + 8) mm_r37 116 [some (.ref 1)] [dz_B q22.1] (hz_0 q22.2) Q
                  refine wq_rb rfl rfl ?_
                  replace H := dz_sm H
                  exact H
              · replace H := dz_if c12 H
                refine wp_s (i := .aload_n 0) (n := 1) (pc' := 99) (st' := [.ref 1]) rfl rfl ?_
                refine wq_cv (Dq := (D + 7)) (r' := mm_r44) (as0 := []) (rest := []) (ls' := [some (.ref 1), none, none]) (pc' := 102) rfl rfl rfl rfl ho_R rfl rfl rfl ?_
                refine jw_R_readRain (X := X) (D := D + 3) q1.2 (dz_pm (dz_bi H) (fun q23 H => ?_))
                show mm_Wp X (D + 8) mm_r37 102 [some (.ref 1)] [dz_B q23.1] (hz_0 q23.2) Q
                refine wq_rb rfl rfl ?_
                replace H := dz_sm H
                exact H
            · replace H := dz_if c10 H
              refine wp_s (i := .aload_n 0) (n := 1) (pc' := 85) (st' := [.ref 1]) rfl rfl ?_
              refine wq_cv (Dq := (D + 7)) (r' := mm_r41) (as0 := []) (rest := []) (ls' := [some (.ref 1), none]) (pc' := 88) rfl rfl rfl rfl ho_R rfl rfl rfl ?_
              refine jw_R_readSpout (X := X) (D := D + 0) q1.2 (dz_pm (dz_bi H) (fun q24 H => ?_))
              show mm_Wp X (D + 8) mm_r37 88 [some (.ref 1)] [dz_B q24.1] (hz_0 q24.2) Q
              refine wq_rb rfl rfl ?_
              replace H := dz_sm H
              exact H
          · replace H := dz_if c8 H
            refine wp_s (i := .aload_n 0) (n := 1) (pc' := 71) (st' := [.ref 1]) rfl rfl ?_
            refine wq_cv (Dq := (D + 7)) (r' := mm_r39) (as0 := []) (rest := []) (ls' := [some (.ref 1), none]) (pc' := 74) rfl rfl rfl rfl ho_R rfl rfl rfl ?_
            refine jw_R_readPeg (X := X) (D := D + 1) q1.2 (dz_pm (dz_bi H) (fun q25 H => ?_))
            show mm_Wp X (D + 8) mm_r37 74 [some (.ref 1)] [dz_B q25.1] (hz_0 q25.2) Q
            refine wq_rb rfl rfl ?_
            replace H := dz_sm H
            exact H
        · replace H := dz_if c6 H
          refine wp_s (i := .aload_n 0) (n := 1) (pc' := 57) (st' := [.ref 1]) rfl rfl ?_
          refine wq_cv (Dq := (D + 7)) (r' := mm_r38) (as0 := []) (rest := []) (ls' := [some (.ref 1), none]) (pc' := 60) rfl rfl rfl rfl ho_R rfl rfl rfl ?_
          refine jw_R_readRoof (X := X) (D := D + 4) q1.2 (dz_pm (dz_bi H) (fun q26 H => ?_))
          show mm_Wp X (D + 8) mm_r37 60 [some (.ref 1)] [dz_B q26.1] (hz_0 q26.2) Q
          refine wq_rb rfl rfl ?_
          replace H := dz_sm H
          exact H
      · replace H := dz_if c4 H
        refine wp_s (i := .aload_n 0) (n := 1) (pc' := 42) (st' := [.ref 1]) rfl rfl ?_
        refine wp_s (i := .iconst 2) (n := 1) (pc' := 43) (st' := [dz_I 2, .ref 1]) rfl rfl ?_
        refine wq_cv (Dq := (D + 7)) (r' := mm_r30) (as0 := [dz_I 2]) (rest := []) (ls' := [some (.ref 1), some (dz_I 2)]) (pc' := 46) rfl rfl rfl rfl ho_R rfl rfl rfl ?_
        refine jw_R_fail (X := X) (D := D + 7) 2 q1.2 (dz_pm (dz_bi H) (fun q27 H => ?_))
        show mm_Wp X (D + 8) mm_r37 46 [some (.ref 1)] [dz_B q27.1] (hz_0 q27.2) Q
        refine wq_rb rfl rfl ?_
        replace H := dz_sm H
        exact H
    · replace H := dz_if c3 H
      refine wp_s (i := .aload_n 0) (n := 1) (pc' := 18) (st' := [.ref 1]) rfl rfl ?_
      refine wq_cv (Dq := (D + 7)) (r' := mm_r50) (as0 := []) (rest := []) (ls' := [some (.ref 1), none]) (pc' := 21) rfl rfl rfl rfl ho_R rfl rfl rfl ?_
      refine jw_R_allPartsAreThere (X := X) (D := D + 6) q1.2 (dz_pm (dz_bi H) (fun q28 H => ?_))
      show mm_Wp X (D + 8) mm_r37 21 [some (.ref 1)] [dz_B q28] (hz_0 q1.2) Q
      refine wq_if (p := q28 = true) (tt := 31) (pc' := 24) rfl rfl (cb_ne) rfl (fun c29 => ?_) (fun c29 => ?_)
      · replace H := dz_it c29 H
        refine wp_s (i := .iconst 0) (n := 1) (pc' := 32) (st' := [dz_I 0]) rfl rfl ?_
        refine wq_rf rfl rfl ?_
        replace H := dz_sm H
        exact H
      · replace H := dz_if c29 H
        refine wp_s (i := .aload_n 0) (n := 1) (pc' := 25) (st' := [.ref 1]) rfl rfl ?_
        refine wp_s (i := .bipush 6) (n := 2) (pc' := 27) (st' := [dz_I 6, .ref 1]) rfl rfl ?_
        refine wq_cv (Dq := (D + 7)) (r' := mm_r30) (as0 := [dz_I 6]) (rest := []) (ls' := [some (.ref 1), some (dz_I 6)]) (pc' := 30) rfl rfl rfl rfl ho_R rfl rfl rfl ?_
        refine jw_R_fail (X := X) (D := D + 7) 6 q1.2 (dz_pm (dz_bi H) (fun q30 H => ?_))
        show mm_Wp X (D + 8) mm_r37 30 [some (.ref 1)] [dz_B q30.1] (hz_0 q30.2) Q
        refine wp_s (i := .pop) (n := 1) (pc' := 31) (st' := []) rfl rfl ?_
        refine wp_s (i := .iconst 0) (n := 1) (pc' := 32) (st' := [dz_I 0]) rfl rfl ?_
        refine wq_rf rfl rfl ?_
        replace H := dz_sm H
        exact H
  · replace H := dz_if c2 H
    refine wp_s (i := .iconst 0) (n := 1) (pc' := 8) (st' := [dz_I 0]) rfl rfl ?_
    refine wq_rf rfl rfl ?_
    replace H := dz_sm H
    exact H
-- 54
def jf_S_copyFrom (c0 : Nat) (a1 : Nat) (Z : dz_Z) : Option (dz_Z) := dz_a (dz_f Z c0 0 (Z a1 0)) fun Z1 => dz_a (dz_f Z1 c0 1 (Z1 a1 1)) fun Z2 => dz_a (dz_f Z2 c0 2 (Z2 a1 2)) fun Z3 => dz_a (dz_f Z3 c0 3 (Z3 a1 3)) fun Z4 => dz_lp (fun (s5 : Int × dz_Z) => if 3 ≤ dz_c s5.1 then (dz_a (dz_f s5.2 c0 5 (s5.2 a1 5)) fun Z7 => dz_a (dz_u Z7 c0 6 0 (Z7 a1 6 0)) fun Z8 => some (Sum.inr Z8)) else (if 0 ≤ dz_c s5.1 ∧ dz_c s5.1 < 3 then dz_a (dz_f s5.2 c0 (20 + Int.toNat (dz_c s5.1)) (s5.2 a1 (20 + Int.toNat (dz_c s5.1)))) fun Z10 => some (Sum.inl (s5.1 + 1, Z10)) else none)) 5000 (0, Z4)
set_option maxRecDepth 20000 in
theorem jw_S_copyFrom {X : Option (List Int32)} {D : Nat} {Q : Option Value → mm_H → Prop} (c0 : Nat) (hc0 : hz_isS c0) (a1 : Nat) (ha1 : hz_isS a1) (Z : dz_Z) (H : dz_p (jf_S_copyFrom c0 a1 Z) (fun q => Q (none) (hz_0 q))) : mm_Wp X (D + 1) mm_r54 0 [some (.ref c0), some (.ref a1), none] [] (hz_0 Z) Q := by
  unfold jf_S_copyFrom at H
  refine wp_s (i := .aload_n 1) (n := 1) (pc' := 1) (st' := [.ref a1]) rfl rfl ?_
  refine wq_gr (idx := 9) (a := a1 + 1) (pc' := 4) rfl rfl (ho_S ha1) rfl rfl ?_
  refine wp_s (i := .iconst 0) (n := 1) (pc' := 5) (st' := [dz_I 0, .ref (a1 + 1)]) rfl rfl ?_
  refine wp_s (i := .aload_n 0) (n := 1) (pc' := 6) (st' := [.ref c0, dz_I 0, .ref (a1 + 1)]) rfl rfl ?_
  refine wq_gr (idx := 9) (a := c0 + 1) (pc' := 9) rfl rfl (ho_S hc0) rfl rfl ?_
  refine wp_s (i := .iconst 0) (n := 1) (pc' := 10) (st' := [dz_I 0, .ref (c0 + 1), dz_I 0, .ref (a1 + 1)]) rfl rfl ?_
  refine wp_s (i := .iconst 5) (n := 1) (pc' := 11) (st' := [dz_I 5, dz_I 0, .ref (c0 + 1), dz_I 0, .ref (a1 + 1)]) rfl rfl ?_
  refine wq_cp (Dp := D) (n := 5) (tag := 0) (pc' := 14) rfl rfl (by decide) (ha_S_0 ha1) (ha_S_0 hc0) dk_5 rfl rfl (fun Z1 eZ1 => ?_)
  replace H := dz_le H Z1 eZ1
  clear eZ1
  refine wp_s (i := .aload_n 1) (n := 1) (pc' := 15) (st' := [.ref a1]) rfl rfl ?_
  refine wq_gr (idx := 15) (a := a1 + 2) (pc' := 18) rfl rfl (ho_S ha1) rfl rfl ?_
  refine wp_s (i := .iconst 0) (n := 1) (pc' := 19) (st' := [dz_I 0, .ref (a1 + 2)]) rfl rfl ?_
  refine wp_s (i := .aload_n 0) (n := 1) (pc' := 20) (st' := [.ref c0, dz_I 0, .ref (a1 + 2)]) rfl rfl ?_
  refine wq_gr (idx := 15) (a := c0 + 2) (pc' := 23) rfl rfl (ho_S hc0) rfl rfl ?_
  refine wp_s (i := .iconst 0) (n := 1) (pc' := 24) (st' := [dz_I 0, .ref (c0 + 2), dz_I 0, .ref (a1 + 2)]) rfl rfl ?_
  refine wp_s (i := .iconst 5) (n := 1) (pc' := 25) (st' := [dz_I 5, dz_I 0, .ref (c0 + 2), dz_I 0, .ref (a1 + 2)]) rfl rfl ?_
  refine wq_cp (Dp := D) (n := 5) (tag := 0) (pc' := 28) rfl rfl (by decide) (ha_S_1 ha1) (ha_S_1 hc0) dk_5 rfl rfl (fun Z2 eZ2 => ?_)
  replace H := dz_le H Z2 eZ2
  clear eZ2
  refine wp_s (i := .aload_n 1) (n := 1) (pc' := 29) (st' := [.ref a1]) rfl rfl ?_
  refine wq_gr (idx := 18) (a := a1 + 3) (pc' := 32) rfl rfl (ho_S ha1) rfl rfl ?_
  refine wp_s (i := .iconst 0) (n := 1) (pc' := 33) (st' := [dz_I 0, .ref (a1 + 3)]) rfl rfl ?_
  refine wp_s (i := .aload_n 0) (n := 1) (pc' := 34) (st' := [.ref c0, dz_I 0, .ref (a1 + 3)]) rfl rfl ?_
  refine wq_gr (idx := 18) (a := c0 + 3) (pc' := 37) rfl rfl (ho_S hc0) rfl rfl ?_
  refine wp_s (i := .iconst 0) (n := 1) (pc' := 38) (st' := [dz_I 0, .ref (c0 + 3), dz_I 0, .ref (a1 + 3)]) rfl rfl ?_
  refine wp_s (i := .bipush 8) (n := 2) (pc' := 40) (st' := [dz_I 8, dz_I 0, .ref (c0 + 3), dz_I 0, .ref (a1 + 3)]) rfl rfl ?_
  refine wq_cp (Dp := D) (n := 8) (tag := 0) (pc' := 43) rfl rfl (by decide) (ha_S_2 ha1) (ha_S_2 hc0) dk_8 rfl rfl (fun Z3 eZ3 => ?_)
  replace H := dz_le H Z3 eZ3
  clear eZ3
  refine wp_s (i := .aload_n 1) (n := 1) (pc' := 44) (st' := [.ref a1]) rfl rfl ?_
  refine wq_gr (idx := 21) (a := a1 + 4) (pc' := 47) rfl rfl (ho_S ha1) rfl rfl ?_
  refine wp_s (i := .iconst 0) (n := 1) (pc' := 48) (st' := [dz_I 0, .ref (a1 + 4)]) rfl rfl ?_
  refine wp_s (i := .aload_n 0) (n := 1) (pc' := 49) (st' := [.ref c0, dz_I 0, .ref (a1 + 4)]) rfl rfl ?_
  refine wq_gr (idx := 21) (a := c0 + 4) (pc' := 52) rfl rfl (ho_S hc0) rfl rfl ?_
  refine wp_s (i := .iconst 0) (n := 1) (pc' := 53) (st' := [dz_I 0, .ref (c0 + 4), dz_I 0, .ref (a1 + 4)]) rfl rfl ?_
  refine wp_s (i := .iconst 3) (n := 1) (pc' := 54) (st' := [dz_I 3, dz_I 0, .ref (c0 + 4), dz_I 0, .ref (a1 + 4)]) rfl rfl ?_
  refine wq_cp (Dp := D) (n := 3) (tag := 0) (pc' := 57) rfl rfl (by decide) (ha_S_3 ha1) (ha_S_3 hc0) dk_3 rfl rfl (fun Z4 eZ4 => ?_)
  replace H := dz_le H Z4 eZ4
  clear eZ4
  refine wp_s (i := .iconst 0) (n := 1) (pc' := 58) (st' := [dz_I 0]) rfl rfl ?_
  refine wq_st (k := 2) (i := .istore_n 2) (n := 1) (ls' := [some (.ref c0), some (.ref a1), some (dz_I 0)]) (pc' := 59) rfl rfl rfl rfl rfl ?_
  refine dz_lpi (P := fun (s5 : Int × dz_Z) => mm_Wp X (D + 1) mm_r54 59 [some (.ref c0), some (.ref a1), some (dz_I s5.1)] [] (hz_0 s5.2) Q) (fun s5 H => ?_) 5000 (0, Z4) H
  refine wp_s (i := .iload_n 2) (n := 1) (pc' := 60) (st' := [dz_I s5.1]) rfl rfl ?_
  refine wp_s (i := .iconst 3) (n := 1) (pc' := 61) (st' := [dz_I 3, dz_I s5.1]) rfl rfl ?_
  refine wq_ic (p := 3 ≤ dz_c s5.1) (tt := 89) (pc' := 64) rfl rfl (cq_ge rfl dk_3) rfl (fun c6 => ?_) (fun c6 => ?_)
  · replace H := dz_it c6 H
    refine wp_s (i := .aload_n 1) (n := 1) (pc' := 90) (st' := [.ref a1]) rfl rfl ?_
    refine wq_gr (idx := 29) (a := a1 + 9) (pc' := 93) rfl rfl (ho_S ha1) rfl rfl ?_
    refine wp_s (i := .iconst 0) (n := 1) (pc' := 94) (st' := [dz_I 0, .ref (a1 + 9)]) rfl rfl ?_
    refine wp_s (i := .aload_n 0) (n := 1) (pc' := 95) (st' := [.ref c0, dz_I 0, .ref (a1 + 9)]) rfl rfl ?_
    refine wq_gr (idx := 29) (a := c0 + 9) (pc' := 98) rfl rfl (ho_S hc0) rfl rfl ?_
    refine wp_s (i := .iconst 0) (n := 1) (pc' := 99) (st' := [dz_I 0, .ref (c0 + 9), dz_I 0, .ref (a1 + 9)]) rfl rfl ?_
    refine wp_s (i := .bipush 12) (n := 2) (pc' := 101) (st' := [dz_I 12, dz_I 0, .ref (c0 + 9), dz_I 0, .ref (a1 + 9)]) rfl rfl ?_
    refine wq_cp (Dp := D) (n := 12) (tag := 0) (pc' := 104) rfl rfl (by decide) (ha_S_5 ha1) (ha_S_5 hc0) dk_12 rfl rfl (fun Z7 eZ7 => ?_)
    replace H := dz_le H Z7 eZ7
    clear eZ7
    refine wp_s (i := .aload_n 0) (n := 1) (pc' := 105) (st' := [.ref c0]) rfl rfl ?_
    refine wp_s (i := .aload_n 1) (n := 1) (pc' := 106) (st' := [.ref a1, .ref c0]) rfl rfl ?_
    refine wq_gi (idx := 38) (pc' := 109) rfl rfl (ho_S ha1) rfl rfl ?_
    refine wq_pi (idx := 38) (x := Z7 a1 6 0) (pc' := 112) rfl rfl rfl (ho_S hc0) rfl rfl rfl rfl (fun Z8 eZ8 => ?_)
    replace H := dz_le H Z8 eZ8
    clear eZ8
    refine wq_rv rfl rfl ?_
    replace H := dz_out H
    replace H := dz_sm H
    exact H
  · replace H := dz_if c6 H
    refine wp_s (i := .aload_n 1) (n := 1) (pc' := 65) (st' := [.ref a1]) rfl rfl ?_
    refine wq_gr (idx := 26) (a := a1 + 5) (pc' := 68) rfl rfl (ho_S ha1) rfl rfl ?_
    refine wp_s (i := .iload_n 2) (n := 1) (pc' := 69) (st' := [dz_I s5.1, .ref (a1 + 5)]) rfl rfl ?_
    obtain ⟨k9, H⟩ := dz_ck H
    refine wq_aa (j' := dz_c s5.1) (a := a1 + 6 + Int.toNat (dz_c s5.1)) (pc' := 70) rfl (by decide) (ha_S_4 ha1) rfl k9.1 k9.2 (hr_S k9.1 k9.2) rfl ?_
    refine wp_s (i := .iconst 0) (n := 1) (pc' := 71) (st' := [dz_I 0, .ref (a1 + 6 + Int.toNat (dz_c s5.1))]) rfl rfl ?_
    refine wp_s (i := .aload_n 0) (n := 1) (pc' := 72) (st' := [.ref c0, dz_I 0, .ref (a1 + 6 + Int.toNat (dz_c s5.1))]) rfl rfl ?_
    refine wq_gr (idx := 26) (a := c0 + 5) (pc' := 75) rfl rfl (ho_S hc0) rfl rfl ?_
    refine wp_s (i := .iload_n 2) (n := 1) (pc' := 76) (st' := [dz_I s5.1, .ref (c0 + 5), dz_I 0, .ref (a1 + 6 + Int.toNat (dz_c s5.1))]) rfl rfl ?_
    refine wq_aa (j' := dz_c s5.1) (a := c0 + 6 + Int.toNat (dz_c s5.1)) (pc' := 77) rfl (by decide) (ha_S_4 hc0) rfl k9.1 k9.2 (hr_S k9.1 k9.2) rfl ?_
    refine wp_s (i := .iconst 0) (n := 1) (pc' := 78) (st' := [dz_I 0, .ref (c0 + 6 + Int.toNat (dz_c s5.1)), dz_I 0, .ref (a1 + 6 + Int.toNat (dz_c s5.1))]) rfl rfl ?_
    refine wp_s (i := .bipush 12) (n := 2) (pc' := 80) (st' := [dz_I 12, dz_I 0, .ref (c0 + 6 + Int.toNat (dz_c s5.1)), dz_I 0, .ref (a1 + 6 + Int.toNat (dz_c s5.1))]) rfl rfl ?_
    refine wq_cp (Dp := D) (n := 12) (tag := 0) (pc' := 83) rfl rfl (by decide) (ha_Sr ha1 k9.1 k9.2) (ha_Sr hc0 k9.1 k9.2) dk_12 rfl rfl (fun Z10 eZ10 => ?_)
    replace H := dz_le H Z10 eZ10
    clear eZ10
    refine wq_inc (k := 2) (d := 1) (x := s5.1) (ls' := [some (.ref c0), some (.ref a1), some (dz_I (s5.1 + 1))]) (pc' := 86) rfl rfl rfl rfl ?_
    refine wp_s (i := .goto (-27)) (n := 3) (pc' := 59) (st' := []) rfl rfl ?_
    replace H := dz_back H
    exact H
-- 55
def jf_S_pegsAsNumber (c0 : Nat) (a1 : Int) (Z : dz_Z) : Option (Int) := dz_lp (fun (s1 : Int × Int) => if dz_c s1.2 < 0 then (some (Sum.inr s1.1)) else (if 0 ≤ dz_c s1.2 ∧ dz_c s1.2 < 5 then some (Sum.inl ((s1.1 * 3) + (Z c0 0 (dz_c s1.2)), s1.2 + (-1))) else none)) 5000 (0, a1 - 1)
set_option maxRecDepth 20000 in
theorem jw_S_pegsAsNumber {X : Option (List Int32)} {D : Nat} {Q : Option Value → mm_H → Prop} (c0 : Nat) (hc0 : hz_isS c0) (a1 : Int) (Z : dz_Z) (H : dz_p (jf_S_pegsAsNumber c0 a1 Z) (fun q => Q (some (dz_I q)) (hz_0 Z))) : mm_Wp X D mm_r55 0 [some (.ref c0), some (dz_I a1), none, none] [] (hz_0 Z) Q := by
  unfold jf_S_pegsAsNumber at H
  refine wp_s (i := .iconst 0) (n := 1) (pc' := 1) (st' := [dz_I 0]) rfl rfl ?_
  refine wq_st (k := 2) (i := .istore_n 2) (n := 1) (ls' := [some (.ref c0), some (dz_I a1), some (dz_I 0), none]) (pc' := 2) rfl rfl rfl rfl rfl ?_
  refine wp_s (i := .iload_n 1) (n := 1) (pc' := 3) (st' := [dz_I a1]) rfl rfl ?_
  refine wp_s (i := .iconst 1) (n := 1) (pc' := 4) (st' := [dz_I 1, dz_I a1]) rfl rfl ?_
  refine wq_2 (i := .isub) (z := a1 - 1) (pc' := 5) rfl rfl (op_sub _ _) rfl ?_
  refine wq_st (k := 3) (i := .istore_n 3) (n := 1) (ls' := [some (.ref c0), some (dz_I a1), some (dz_I 0), some (dz_I (a1 - 1))]) (pc' := 6) rfl rfl rfl rfl rfl ?_
  refine dz_lpi (P := fun (s1 : Int × Int) => mm_Wp X D mm_r55 6 [some (.ref c0), some (dz_I a1), some (dz_I s1.1), some (dz_I s1.2)] [] (hz_0 Z) Q) (fun s1 H => ?_) 5000 (0, a1 - 1) H
  refine wp_s (i := .iload_n 3) (n := 1) (pc' := 7) (st' := [dz_I s1.2]) rfl rfl ?_
  refine wq_if (p := dz_c s1.2 < 0) (tt := 27) (pc' := 10) rfl rfl (cz_lt rfl) rfl (fun c2 => ?_) (fun c2 => ?_)
  · replace H := dz_it c2 H
    refine wp_s (i := .iload_n 2) (n := 1) (pc' := 28) (st' := [dz_I s1.1]) rfl rfl ?_
    refine wq_ri rfl rfl ?_
    replace H := dz_out H
    replace H := dz_sm H
    exact H
  · replace H := dz_if c2 H
    refine wp_s (i := .iload_n 2) (n := 1) (pc' := 11) (st' := [dz_I s1.1]) rfl rfl ?_
    refine wp_s (i := .iconst 3) (n := 1) (pc' := 12) (st' := [dz_I 3, dz_I s1.1]) rfl rfl ?_
    refine wq_2 (i := .imul) (z := s1.1 * 3) (pc' := 13) rfl rfl (op_mul _ _) rfl ?_
    refine wp_s (i := .aload_n 0) (n := 1) (pc' := 14) (st' := [.ref c0, dz_I (s1.1 * 3)]) rfl rfl ?_
    refine wq_gr (idx := 9) (a := c0 + 1) (pc' := 17) rfl rfl (ho_S hc0) rfl rfl ?_
    refine wp_s (i := .iload_n 3) (n := 1) (pc' := 18) (st' := [dz_I s1.2, .ref (c0 + 1), dz_I (s1.1 * 3)]) rfl rfl ?_
    obtain ⟨k3, H⟩ := dz_ck H
    refine wq_ia (j' := dz_c s1.2) (pc' := 19) rfl (ha_S_0 hc0) rfl k3.1 k3.2 rfl ?_
    refine wq_2 (i := .iadd) (z := (s1.1 * 3) + (Z c0 0 (dz_c s1.2))) (pc' := 20) rfl rfl (op_add _ _) rfl ?_
    refine wq_st (k := 2) (i := .istore_n 2) (n := 1) (ls' := [some (.ref c0), some (dz_I a1), some (dz_I ((s1.1 * 3) + (Z c0 0 (dz_c s1.2)))), some (dz_I s1.2)]) (pc' := 21) rfl rfl rfl rfl rfl ?_
    refine wq_inc (k := 3) (d := (-1)) (x := s1.2) (ls' := [some (.ref c0), some (dz_I a1), some (dz_I ((s1.1 * 3) + (Z c0 0 (dz_c s1.2)))), some (dz_I (s1.2 + (-1)))]) (pc' := 24) rfl rfl rfl rfl ?_
    refine wp_s (i := .goto (-18)) (n := 3) (pc' := 6) (st' := []) rfl rfl ?_
    replace H := dz_back H
    exact H
-- 56
def jf_S_setPegs (c0 : Nat) (a1 : Int) (a2 : Int) (Z : dz_Z) : Option (dz_Z) := dz_lp (fun (s1 : Int × Int × dz_Z) => if dz_c a1 ≤ dz_c s1.2.1 then (some (Sum.inr s1.2.2)) else (if 0 ≤ dz_c s1.2.1 ∧ dz_c s1.2.1 < 5 then dz_a (dz_u s1.2.2 c0 0 (dz_c s1.2.1) (Int.tmod (dz_c s1.1) 3)) fun Z4 => some (Sum.inl (Int.tdiv (dz_c s1.1) 3, s1.2.1 + 1, Z4)) else none)) 5000 (a2, 0, Z)
set_option maxRecDepth 20000 in
theorem jw_S_setPegs {X : Option (List Int32)} {D : Nat} {Q : Option Value → mm_H → Prop} (c0 : Nat) (hc0 : hz_isS c0) (a1 : Int) (a2 : Int) (Z : dz_Z) (H : dz_p (jf_S_setPegs c0 a1 a2 Z) (fun q => Q (none) (hz_0 q))) : mm_Wp X D mm_r56 0 [some (.ref c0), some (dz_I a1), some (dz_I a2), none, none] [] (hz_0 Z) Q := by
  unfold jf_S_setPegs at H
  refine wp_s (i := .iload_n 2) (n := 1) (pc' := 1) (st' := [dz_I a2]) rfl rfl ?_
  refine wq_st (k := 3) (i := .istore_n 3) (n := 1) (ls' := [some (.ref c0), some (dz_I a1), some (dz_I a2), some (dz_I a2), none]) (pc' := 2) rfl rfl rfl rfl rfl ?_
  refine wp_s (i := .iconst 0) (n := 1) (pc' := 3) (st' := [dz_I 0]) rfl rfl ?_
  refine wq_st (k := 4) (i := .istore 4) (n := 2) (ls' := [some (.ref c0), some (dz_I a1), some (dz_I a2), some (dz_I a2), some (dz_I 0)]) (pc' := 5) rfl rfl rfl rfl rfl ?_
  refine dz_lpi (P := fun (s1 : Int × Int × dz_Z) => mm_Wp X D mm_r56 5 [some (.ref c0), some (dz_I a1), some (dz_I a2), some (dz_I s1.1), some (dz_I s1.2.1)] [] (hz_0 s1.2.2) Q) (fun s1 H => ?_) 5000 (a2, 0, Z) H
  refine wp_s (i := .iload 4) (n := 2) (pc' := 7) (st' := [dz_I s1.2.1]) rfl rfl ?_
  refine wp_s (i := .iload_n 1) (n := 1) (pc' := 8) (st' := [dz_I a1, dz_I s1.2.1]) rfl rfl ?_
  refine wq_ic (p := dz_c a1 ≤ dz_c s1.2.1) (tt := 31) (pc' := 11) rfl rfl (cq_ge rfl rfl) rfl (fun c2 => ?_) (fun c2 => ?_)
  · replace H := dz_it c2 H
    refine wq_rv rfl rfl ?_
    replace H := dz_out H
    replace H := dz_sm H
    exact H
  · replace H := dz_if c2 H
    refine wp_s (i := .aload_n 0) (n := 1) (pc' := 12) (st' := [.ref c0]) rfl rfl ?_
    refine wq_gr (idx := 9) (a := c0 + 1) (pc' := 15) rfl rfl (ho_S hc0) rfl rfl ?_
    refine wp_s (i := .iload 4) (n := 2) (pc' := 17) (st' := [dz_I s1.2.1, .ref (c0 + 1)]) rfl rfl ?_
    refine wp_s (i := .iload_n 3) (n := 1) (pc' := 18) (st' := [dz_I s1.1, dz_I s1.2.1, .ref (c0 + 1)]) rfl rfl ?_
    refine wp_s (i := .iconst 3) (n := 1) (pc' := 19) (st' := [dz_I 3, dz_I s1.1, dz_I s1.2.1, .ref (c0 + 1)]) rfl rfl ?_
    refine wq_2 (i := .irem) (z := Int.tmod (dz_c s1.1) 3) (pc' := 20) rfl rfl (op_rem rfl dk_3 (by decide)) rfl ?_
    obtain ⟨k3, H⟩ := dz_ck H
    refine wq_is (j' := dz_c s1.2.1) (x := Int.tmod (dz_c s1.1) 3) (pc' := 21) rfl (ha_S_0 hc0) rfl k3.1 k3.2 rfl (fun Z4 eZ4 => ?_)
    replace H := dz_le H Z4 eZ4
    clear eZ4
    refine wp_s (i := .iload_n 3) (n := 1) (pc' := 22) (st' := [dz_I s1.1]) rfl rfl ?_
    refine wp_s (i := .iconst 3) (n := 1) (pc' := 23) (st' := [dz_I 3, dz_I s1.1]) rfl rfl ?_
    refine wq_2 (i := .idiv) (z := Int.tdiv (dz_c s1.1) 3) (pc' := 24) rfl rfl (op_div rfl dk_3 (by decide)) rfl ?_
    refine wq_st (k := 3) (i := .istore_n 3) (n := 1) (ls' := [some (.ref c0), some (dz_I a1), some (dz_I a2), some (dz_I (Int.tdiv (dz_c s1.1) 3)), some (dz_I s1.2.1)]) (pc' := 25) rfl rfl rfl rfl rfl ?_
    refine wq_inc (k := 4) (d := 1) (x := s1.2.1) (ls' := [some (.ref c0), some (dz_I a1), some (dz_I a2), some (dz_I (Int.tdiv (dz_c s1.1) 3)), some (dz_I (s1.2.1 + 1))]) (pc' := 28) rfl rfl rfl rfl ?_
    refine wp_s (i := .goto (-23)) (n := 3) (pc' := 5) (st' := []) rfl rfl ?_
    replace H := dz_back H
    exact H
-- 58
def jf_H_isNothing (c0 : Nat) (Z : dz_Z) : Option (Bool) := if dz_c (Z c0 2 0) ≠ (-1) then (some false) else (some true)
set_option maxRecDepth 20000 in
theorem jw_H_isNothing {X : Option (List Int32)} {D : Nat} {Q : Option Value → mm_H → Prop} (c0 : Nat) (hc0 : hz_isH c0) (Z : dz_Z) (H : dz_p (jf_H_isNothing c0 Z) (fun q => Q (some (dz_B q)) (hz_0 Z))) : mm_Wp X D mm_r58 0 [some (.ref c0)] [] (hz_0 Z) Q := by
  unfold jf_H_isNothing at H
  refine wp_s (i := .aload_n 0) (n := 1) (pc' := 1) (st' := [.ref c0]) rfl rfl ?_
  refine wq_gi (idx := 15) (pc' := 4) rfl rfl (ho_H hc0) rfl rfl ?_
  refine wp_s (i := .iconst (-1)) (n := 1) (pc' := 5) (st' := [dz_I (-1), dz_I (Z c0 2 0)]) rfl rfl ?_
  refine wq_ic (p := dz_c (Z c0 2 0) ≠ (-1)) (tt := 12) (pc' := 8) rfl rfl (cq_ne rfl dk_m1) rfl (fun c1 => ?_) (fun c1 => ?_)
  · replace H := dz_it c1 H
    refine wp_s (i := .iconst 0) (n := 1) (pc' := 13) (st' := [dz_I 0]) rfl rfl ?_
    refine wq_rf rfl rfl ?_
    replace H := dz_sm H
    exact H
  · replace H := dz_if c1 H
    refine wp_s (i := .iconst 1) (n := 1) (pc' := 9) (st' := [dz_I 1]) rfl rfl ?_
    refine wp_s (i := .goto 4) (n := 3) (pc' := 13) (st' := [dz_I 1]) rfl rfl ?_
    refine wq_rt rfl rfl ?_
    replace H := dz_sm H
    exact H
-- 59
def jf_H_renew (c0 : Nat) (a1 : Int) (a2 : Int) (Z : dz_Z) : Option (dz_Z) := dz_a (dz_f Z c0 0 (fun _ => 0)) fun Z1 => dz_a (dz_u Z1 c0 1 0 a1) fun Z2 => dz_a (dz_u Z2 c0 2 0 a2) fun Z3 => some Z3
set_option maxRecDepth 20000 in
theorem jw_H_renew {X : Option (List Int32)} {D : Nat} {Q : Option Value → mm_H → Prop} (c0 : Nat) (hc0 : hz_isH c0) (a1 : Int) (a2 : Int) (Z : dz_Z) (H : dz_p (jf_H_renew c0 a1 a2 Z) (fun q => Q (none) (hz_0 q))) : mm_Wp X (D + 1) mm_r59 0 [some (.ref c0), some (dz_I a1), some (dz_I a2)] [] (hz_0 Z) Q := by
  unfold jf_H_renew at H
  refine wp_s (i := .aload_n 0) (n := 1) (pc' := 1) (st' := [.ref c0]) rfl rfl ?_
  refine wq_gr (idx := 9) (a := c0 + 1) (pc' := 4) rfl rfl (ho_H hc0) rfl rfl ?_
  refine wp_s (i := .iconst 0) (n := 1) (pc' := 5) (st' := [dz_I 0, .ref (c0 + 1)]) rfl rfl ?_
  refine wq_cs (Dq := D) (r' := mm_r200) (as0 := [.ref (c0 + 1), dz_I 0]) (rest := []) (ls' := [some (.ref (c0 + 1)), some (dz_I 0), none, none]) (pc' := 8) rfl rfl (by decide) rfl rfl rfl rfl rfl ?_
  refine jw_fillI (ha_H_0 hc0) (by decide) (fun Z1 eZ1 => ?_)
  replace H := dz_le H Z1 eZ1
  clear eZ1
  show mm_Wp X (D + 1) mm_r59 8 [some (.ref c0), some (dz_I a1), some (dz_I a2)] [] (hz_0 Z1) Q
  refine wp_s (i := .aload_n 0) (n := 1) (pc' := 9) (st' := [.ref c0]) rfl rfl ?_
  refine wp_s (i := .iload_n 1) (n := 1) (pc' := 10) (st' := [dz_I a1, .ref c0]) rfl rfl ?_
  refine wq_pi (idx := 25) (x := a1) (pc' := 13) rfl rfl rfl (ho_H hc0) rfl rfl rfl rfl (fun Z2 eZ2 => ?_)
  replace H := dz_le H Z2 eZ2
  clear eZ2
  refine wp_s (i := .aload_n 0) (n := 1) (pc' := 14) (st' := [.ref c0]) rfl rfl ?_
  refine wp_s (i := .iload_n 2) (n := 1) (pc' := 15) (st' := [dz_I a2, .ref c0]) rfl rfl ?_
  refine wq_pi (idx := 15) (x := a2) (pc' := 18) rfl rfl rfl (ho_H hc0) rfl rfl rfl rfl (fun Z3 eZ3 => ?_)
  replace H := dz_le H Z3 eZ3
  clear eZ3
  refine wq_rv rfl rfl ?_
  replace H := dz_sm H
  exact H
-- 60
def jf_H_faultAt (c0 : Nat) (a1 : Int) (a2 : Int) (Z : dz_Z) : Option (Int) := Option.bind (jf_H_isNothing c0 Z) fun q1 => if q1 = false then (if dz_c a1 = dz_c (Z c0 1 0) then (if dz_c a2 < 0 then (some 2) else (if dz_c a2 < dz_c (Z c0 2 0) then (some 0) else (some 2))) else (some 3)) else (some 1)
set_option maxRecDepth 20000 in
theorem jw_H_faultAt {X : Option (List Int32)} {D : Nat} {Q : Option Value → mm_H → Prop} (c0 : Nat) (hc0 : hz_isH c0) (a1 : Int) (a2 : Int) (Z : dz_Z) (H : dz_p (jf_H_faultAt c0 a1 a2 Z) (fun q => Q (some (dz_I q)) (hz_0 Z))) : mm_Wp X (D + 1) mm_r60 0 [some (.ref c0), some (dz_I a1), some (dz_I a2)] [] (hz_0 Z) Q := by
  unfold jf_H_faultAt at H
  refine wp_s (i := .aload_n 0) (n := 1) (pc' := 1) (st' := [.ref c0]) rfl rfl ?_
  refine wq_cv (Dq := D) (r' := mm_r58) (as0 := []) (rest := []) (ls' := [some (.ref c0)]) (pc' := 4) rfl rfl rfl rfl (ho_H hc0) rfl rfl rfl ?_
  refine jw_H_isNothing (X := X) (D := D + 0) c0 hc0 Z (dz_pm (dz_bi H) (fun q1 H => ?_))
  show mm_Wp X (D + 1) mm_r60 4 [some (.ref c0), some (dz_I a1), some (dz_I a2)] [dz_B q1] (hz_0 Z) Q
  refine wq_if (p := q1 = false) (tt := 9) (pc' := 7) rfl rfl (cb_eq) rfl (fun c2 => ?_) (fun c2 => ?_)
  · replace H := dz_it c2 H
    refine wp_s (i := .iload_n 1) (n := 1) (pc' := 10) (st' := [dz_I a1]) rfl rfl ?_
    refine wp_s (i := .aload_n 0) (n := 1) (pc' := 11) (st' := [.ref c0, dz_I a1]) rfl rfl ?_
    refine wq_gi (idx := 25) (pc' := 14) rfl rfl (ho_H hc0) rfl rfl ?_
    refine wq_ic (p := dz_c a1 = dz_c (Z c0 1 0)) (tt := 19) (pc' := 17) rfl rfl (cq_eq rfl rfl) rfl (fun c3 => ?_) (fun c3 => ?_)
    · replace H := dz_it c3 H
      refine wp_s (i := .iload_n 2) (n := 1) (pc' := 20) (st' := [dz_I a2]) rfl rfl ?_
      refine wq_if (p := dz_c a2 < 0) (tt := 31) (pc' := 23) rfl rfl (cz_lt rfl) rfl (fun c4 => ?_) (fun c4 => ?_)
      · replace H := dz_it c4 H
        refine wp_s (i := .iconst 2) (n := 1) (pc' := 32) (st' := [dz_I 2]) rfl rfl ?_
        refine wp_s (i := .goto 4) (n := 3) (pc' := 36) (st' := [dz_I 2]) rfl rfl ?_
        refine wq_ri rfl rfl ?_
        replace H := dz_sm H
        exact H
      · replace H := dz_if c4 H
        refine wp_s (i := .iload_n 2) (n := 1) (pc' := 24) (st' := [dz_I a2]) rfl rfl ?_
        refine wp_s (i := .aload_n 0) (n := 1) (pc' := 25) (st' := [.ref c0, dz_I a2]) rfl rfl ?_
        refine wq_gi (idx := 15) (pc' := 28) rfl rfl (ho_H hc0) rfl rfl ?_
        refine wq_ic (p := dz_c a2 < dz_c (Z c0 2 0)) (tt := 35) (pc' := 31) rfl rfl (cq_lt rfl rfl) rfl (fun c5 => ?_) (fun c5 => ?_)
        · replace H := dz_it c5 H
          refine wp_s (i := .iconst 0) (n := 1) (pc' := 36) (st' := [dz_I 0]) rfl rfl ?_
          refine wq_ri rfl rfl ?_
          replace H := dz_sm H
          exact H
        · replace H := dz_if c5 H
          refine wp_s (i := .iconst 2) (n := 1) (pc' := 32) (st' := [dz_I 2]) rfl rfl ?_
          refine wp_s (i := .goto 4) (n := 3) (pc' := 36) (st' := [dz_I 2]) rfl rfl ?_
          refine wq_ri rfl rfl ?_
          replace H := dz_sm H
          exact H
    · replace H := dz_if c3 H
      refine wp_s (i := .iconst 3) (n := 1) (pc' := 18) (st' := [dz_I 3]) rfl rfl ?_
      refine wq_ri rfl rfl ?_
      replace H := dz_sm H
      exact H
  · replace H := dz_if c2 H
    refine wp_s (i := .iconst 1) (n := 1) (pc' := 8) (st' := [dz_I 1]) rfl rfl ?_
    refine wq_ri rfl rfl ?_
    replace H := dz_sm H
    exact H
-- 61
def jf_H_put (c0 : Nat) (a1 : Int) (a2 : Int) (Z : dz_Z) : Option (dz_Z) := if dz_c (Z c0 1 0) ≠ 0 then (if dz_c (Z c0 1 0) ≠ 1 then (if 0 ≤ dz_c a1 ∧ dz_c a1 < 40 then dz_a (dz_u Z c0 0 (dz_c a1) a2) fun Z4 => some Z4 else none) else (if 0 ≤ dz_c a1 ∧ dz_c a1 < 40 then dz_a (dz_u Z c0 0 (dz_c a1) (dz_s a2)) fun Z6 => some Z6 else none)) else (if 0 ≤ dz_c a1 ∧ dz_c a1 < 40 then dz_a (dz_u Z c0 0 (dz_c a1) (dz_b a2)) fun Z8 => some Z8 else none)
set_option maxRecDepth 20000 in
theorem jw_H_put {X : Option (List Int32)} {D : Nat} {Q : Option Value → mm_H → Prop} (c0 : Nat) (hc0 : hz_isH c0) (a1 : Int) (a2 : Int) (Z : dz_Z) (H : dz_p (jf_H_put c0 a1 a2 Z) (fun q => Q (none) (hz_0 q))) : mm_Wp X D mm_r61 0 [some (.ref c0), some (dz_I a1), some (dz_I a2)] [] (hz_0 Z) Q := by
  unfold jf_H_put at H
  refine wp_s (i := .aload_n 0) (n := 1) (pc' := 1) (st' := [.ref c0]) rfl rfl ?_
  refine wq_gi (idx := 25) (pc' := 4) rfl rfl (ho_H hc0) rfl rfl ?_
  refine wq_if (p := dz_c (Z c0 1 0) ≠ 0) (tt := 18) (pc' := 7) rfl rfl (cz_ne rfl) rfl (fun c1 => ?_) (fun c1 => ?_)
  · replace H := dz_it c1 H
    refine wp_s (i := .aload_n 0) (n := 1) (pc' := 19) (st' := [.ref c0]) rfl rfl ?_
    refine wq_gi (idx := 25) (pc' := 22) rfl rfl (ho_H hc0) rfl rfl ?_
    refine wp_s (i := .iconst 1) (n := 1) (pc' := 23) (st' := [dz_I 1, dz_I (Z c0 1 0)]) rfl rfl ?_
    refine wq_ic (p := dz_c (Z c0 1 0) ≠ 1) (tt := 37) (pc' := 26) rfl rfl (cq_ne rfl dk_1) rfl (fun c2 => ?_) (fun c2 => ?_)
    · replace H := dz_it c2 H
      refine wp_s (i := .aload_n 0) (n := 1) (pc' := 38) (st' := [.ref c0]) rfl rfl ?_
      refine wq_gr (idx := 9) (a := c0 + 1) (pc' := 41) rfl rfl (ho_H hc0) rfl rfl ?_
      refine wp_s (i := .iload_n 1) (n := 1) (pc' := 42) (st' := [dz_I a1, .ref (c0 + 1)]) rfl rfl ?_
      refine wp_s (i := .iload_n 2) (n := 1) (pc' := 43) (st' := [dz_I a2, dz_I a1, .ref (c0 + 1)]) rfl rfl ?_
      obtain ⟨k3, H⟩ := dz_ck H
      refine wq_is (j' := dz_c a1) (x := a2) (pc' := 44) rfl (ha_H_0 hc0) rfl k3.1 k3.2 rfl (fun Z4 eZ4 => ?_)
      replace H := dz_le H Z4 eZ4
      clear eZ4
      refine wq_rv rfl rfl ?_
      replace H := dz_sm H
      exact H
    · replace H := dz_if c2 H
      refine wp_s (i := .aload_n 0) (n := 1) (pc' := 27) (st' := [.ref c0]) rfl rfl ?_
      refine wq_gr (idx := 9) (a := c0 + 1) (pc' := 30) rfl rfl (ho_H hc0) rfl rfl ?_
      refine wp_s (i := .iload_n 1) (n := 1) (pc' := 31) (st' := [dz_I a1, .ref (c0 + 1)]) rfl rfl ?_
      refine wp_s (i := .iload_n 2) (n := 1) (pc' := 32) (st' := [dz_I a2, dz_I a1, .ref (c0 + 1)]) rfl rfl ?_
      refine wq_3 (i := .i2s) (v' := dz_I (dz_s a2)) (pc' := 33) rfl rfl (oq_i2s _) rfl ?_
      obtain ⟨k5, H⟩ := dz_ck H
      refine wq_is (j' := dz_c a1) (x := dz_s a2) (pc' := 34) rfl (ha_H_0 hc0) rfl k5.1 k5.2 rfl (fun Z6 eZ6 => ?_)
      replace H := dz_le H Z6 eZ6
      clear eZ6
      refine wp_s (i := .goto 10) (n := 3) (pc' := 44) (st' := []) rfl rfl ?_
      refine wq_rv rfl rfl ?_
      replace H := dz_sm H
      exact H
  · replace H := dz_if c1 H
    refine wp_s (i := .aload_n 0) (n := 1) (pc' := 8) (st' := [.ref c0]) rfl rfl ?_
    refine wq_gr (idx := 9) (a := c0 + 1) (pc' := 11) rfl rfl (ho_H hc0) rfl rfl ?_
    refine wp_s (i := .iload_n 1) (n := 1) (pc' := 12) (st' := [dz_I a1, .ref (c0 + 1)]) rfl rfl ?_
    refine wp_s (i := .iload_n 2) (n := 1) (pc' := 13) (st' := [dz_I a2, dz_I a1, .ref (c0 + 1)]) rfl rfl ?_
    refine wq_3 (i := .i2b) (v' := dz_I (dz_b a2)) (pc' := 14) rfl rfl (oq_i2b _) rfl ?_
    obtain ⟨k7, H⟩ := dz_ck H
    refine wq_is (j' := dz_c a1) (x := dz_b a2) (pc' := 15) rfl (ha_H_0 hc0) rfl k7.1 k7.2 rfl (fun Z8 eZ8 => ?_)
    replace H := dz_le H Z8 eZ8
    clear eZ8
    refine wp_s (i := .goto 29) (n := 3) (pc' := 44) (st' := []) rfl rfl ?_
    refine wq_rv rfl rfl ?_
    replace H := dz_sm H
    exact H
-- 64
def jf_O_feed (a1 : Int) (Z : dz_Z) : Option (Int × dz_Z) := if dz_c ((Z 2 1 0) + 8) ≤ 320 then (dz_lp (fun (s2 : Int × dz_Z) => if dz_c s2.1 < 0 then (some (Sum.inr (s2.2 2 1 0, s2.2))) else (if 0 ≤ dz_c (s2.2 2 1 0) ∧ dz_c (s2.2 2 1 0) < 320 then dz_a (dz_u s2.2 2 0 (dz_c (s2.2 2 1 0)) (dz_b (dz_b (dz_li (dz_lur a1 s2.1))))) fun Z5 => dz_a (dz_u Z5 2 1 0 ((Z5 2 1 0) + 1)) fun Z6 => some (Sum.inl (s2.1 + (-8), Z6)) else none)) 5000 (56, Z)) else (some ((-3), Z))
set_option maxRecDepth 20000 in
theorem jw_O_feed {X : Option (List Int32)} {D : Nat} {Q : Option Value → mm_H → Prop} (a1 : Int) (Z : dz_Z) (H : dz_p (jf_O_feed a1 Z) (fun q => Q (some (dz_I q.1)) (hz_0 q.2))) : mm_Wp X D mm_r64 0 [some (.ref 0), some (dz_J a1), none, none] [] (hz_0 Z) Q := by
  unfold jf_O_feed at H
  refine wp_s (i := .aload_n 0) (n := 1) (pc' := 1) (st' := [.ref 0]) rfl rfl ?_
  refine wq_gr (idx := 20) (a := 2) (pc' := 4) rfl rfl ho_O rfl rfl ?_
  refine wq_gi (idx := 70) (pc' := 7) rfl rfl ho_T rfl rfl ?_
  refine wp_s (i := .bipush 8) (n := 2) (pc' := 9) (st' := [dz_I 8, dz_I (Z 2 1 0)]) rfl rfl ?_
  refine wq_2 (i := .iadd) (z := (Z 2 1 0) + 8) (pc' := 10) rfl rfl (op_add _ _) rfl ?_
  refine wp_s (i := .sipush 320) (n := 3) (pc' := 13) (st' := [dz_I 320, dz_I ((Z 2 1 0) + 8)]) rfl rfl ?_
  refine wq_ic (p := dz_c ((Z 2 1 0) + 8) ≤ 320) (tt := 19) (pc' := 16) rfl rfl (cq_le rfl dk_320) rfl (fun c1 => ?_) (fun c1 => ?_)
  · replace H := dz_it c1 H
    refine wp_s (i := .bipush 56) (n := 2) (pc' := 21) (st' := [dz_I 56]) rfl rfl ?_
    refine wq_st (k := 3) (i := .istore_n 3) (n := 1) (ls' := [some (.ref 0), some (dz_J a1), none, some (dz_I 56)]) (pc' := 22) rfl rfl rfl rfl rfl ?_
    refine dz_lpi (P := fun (s2 : Int × dz_Z) => mm_Wp X D mm_r64 22 [some (.ref 0), some (dz_J a1), none, some (dz_I s2.1)] [] (hz_0 s2.2) Q) (fun s2 H => ?_) 5000 (56, Z) H
    refine wp_s (i := .iload_n 3) (n := 1) (pc' := 23) (st' := [dz_I s2.1]) rfl rfl ?_
    refine wq_if (p := dz_c s2.1 < 0) (tt := 65) (pc' := 26) rfl rfl (cz_lt rfl) rfl (fun c3 => ?_) (fun c3 => ?_)
    · replace H := dz_it c3 H
      refine wp_s (i := .aload_n 0) (n := 1) (pc' := 66) (st' := [.ref 0]) rfl rfl ?_
      refine wq_gr (idx := 20) (a := 2) (pc' := 69) rfl rfl ho_O rfl rfl ?_
      refine wq_gi (idx := 70) (pc' := 72) rfl rfl ho_T rfl rfl ?_
      refine wq_ri rfl rfl ?_
      replace H := dz_out H
      replace H := dz_sm H
      exact H
    · replace H := dz_if c3 H
      refine wp_s (i := .aload_n 0) (n := 1) (pc' := 27) (st' := [.ref 0]) rfl rfl ?_
      refine wq_gr (idx := 20) (a := 2) (pc' := 30) rfl rfl ho_O rfl rfl ?_
      refine wq_gr (idx := 76) (a := 3) (pc' := 33) rfl rfl ho_T rfl rfl ?_
      refine wp_s (i := .aload_n 0) (n := 1) (pc' := 34) (st' := [.ref 0, .ref 3]) rfl rfl ?_
      refine wq_gr (idx := 20) (a := 2) (pc' := 37) rfl rfl ho_O rfl rfl ?_
      refine wq_gi (idx := 70) (pc' := 40) rfl rfl ho_T rfl rfl ?_
      refine wp_s (i := .lload_n 1) (n := 1) (pc' := 41) (st' := [dz_J a1, dz_I (s2.2 2 1 0), .ref 3]) rfl rfl ?_
      refine wp_s (i := .iload_n 3) (n := 1) (pc' := 42) (st' := [dz_I s2.1, dz_J a1, dz_I (s2.2 2 1 0), .ref 3]) rfl rfl ?_
      refine wq_4 (i := .lushr) (v' := dz_J (dz_lur a1 s2.1)) (pc' := 43) rfl rfl (ol_ushr _ _) rfl ?_
      refine wq_3 (i := .l2i) (v' := dz_I (dz_li (dz_lur a1 s2.1))) (pc' := 44) rfl rfl (oq_l2i _) rfl ?_
      refine wq_3 (i := .i2b) (v' := dz_I (dz_b (dz_li (dz_lur a1 s2.1)))) (pc' := 45) rfl rfl (oq_i2b _) rfl ?_
      obtain ⟨k4, H⟩ := dz_ck H
      refine wq_bs (j' := dz_c (s2.2 2 1 0)) (x := dz_b (dz_li (dz_lur a1 s2.1))) (pc' := 46) rfl ha_T_0 rfl k4.1 k4.2 rfl (fun Z5 eZ5 => ?_)
      replace H := dz_le H Z5 eZ5
      clear eZ5
      refine wp_s (i := .aload_n 0) (n := 1) (pc' := 47) (st' := [.ref 0]) rfl rfl ?_
      refine wq_gr (idx := 20) (a := 2) (pc' := 50) rfl rfl ho_O rfl rfl ?_
      refine wp_s (i := .dup) (n := 1) (pc' := 51) (st' := [.ref 2, .ref 2]) rfl rfl ?_
      refine wq_gi (idx := 70) (pc' := 54) rfl rfl ho_T rfl rfl ?_
      refine wp_s (i := .iconst 1) (n := 1) (pc' := 55) (st' := [dz_I 1, dz_I (Z5 2 1 0), .ref 2]) rfl rfl ?_
      refine wq_2 (i := .iadd) (z := (Z5 2 1 0) + 1) (pc' := 56) rfl rfl (op_add _ _) rfl ?_
      refine wq_pi (idx := 70) (x := (Z5 2 1 0) + 1) (pc' := 59) rfl rfl rfl ho_T rfl rfl rfl rfl (fun Z6 eZ6 => ?_)
      replace H := dz_le H Z6 eZ6
      clear eZ6
      refine wq_inc (k := 3) (d := (-8)) (x := s2.1) (ls' := [some (.ref 0), some (dz_J a1), none, some (dz_I (s2.1 + (-8)))]) (pc' := 62) rfl rfl rfl rfl ?_
      refine wp_s (i := .goto (-40)) (n := 3) (pc' := 22) (st' := []) rfl rfl ?_
      replace H := dz_back H
      exact H
  · replace H := dz_if c1 H
    refine wp_s (i := .bipush (-3)) (n := 2) (pc' := 18) (st' := [dz_I (-3)]) rfl rfl ?_
    refine wq_ri rfl rfl ?_
    replace H := dz_sm H
    exact H
-- 65
def jf_O_end (a1 : Int) (Z : dz_Z) : Option (Int × dz_Z) := if dz_c a1 < 0 then (some ((-1), Z)) else (if dz_c a1 ≤ dz_c (Z 2 1 0) then (dz_a (dz_u Z 2 1 0 a1) fun Z3 => some (Z 2 1 0, Z3)) else (some ((-1), Z)))
set_option maxRecDepth 20000 in
theorem jw_O_end {X : Option (List Int32)} {D : Nat} {Q : Option Value → mm_H → Prop} (a1 : Int) (Z : dz_Z) (H : dz_p (jf_O_end a1 Z) (fun q => Q (some (dz_I q.1)) (hz_0 q.2))) : mm_Wp X D mm_r65 0 [some (.ref 0), some (dz_I a1), none] [] (hz_0 Z) Q := by
  unfold jf_O_end at H
  refine wp_s (i := .iload_n 1) (n := 1) (pc' := 1) (st' := [dz_I a1]) rfl rfl ?_
  refine wq_if (p := dz_c a1 < 0) (tt := 15) (pc' := 4) rfl rfl (cz_lt rfl) rfl (fun c1 => ?_) (fun c1 => ?_)
  · replace H := dz_it c1 H
    refine wp_s (i := .iconst (-1)) (n := 1) (pc' := 16) (st' := [dz_I (-1)]) rfl rfl ?_
    refine wq_ri rfl rfl ?_
    replace H := dz_sm H
    exact H
  · replace H := dz_if c1 H
    refine wp_s (i := .iload_n 1) (n := 1) (pc' := 5) (st' := [dz_I a1]) rfl rfl ?_
    refine wp_s (i := .aload_n 0) (n := 1) (pc' := 6) (st' := [.ref 0, dz_I a1]) rfl rfl ?_
    refine wq_gr (idx := 20) (a := 2) (pc' := 9) rfl rfl ho_O rfl rfl ?_
    refine wq_gi (idx := 70) (pc' := 12) rfl rfl ho_T rfl rfl ?_
    refine wq_ic (p := dz_c a1 ≤ dz_c (Z 2 1 0)) (tt := 17) (pc' := 15) rfl rfl (cq_le rfl rfl) rfl (fun c2 => ?_) (fun c2 => ?_)
    · replace H := dz_it c2 H
      refine wp_s (i := .aload_n 0) (n := 1) (pc' := 18) (st' := [.ref 0]) rfl rfl ?_
      refine wq_gr (idx := 20) (a := 2) (pc' := 21) rfl rfl ho_O rfl rfl ?_
      refine wq_gi (idx := 70) (pc' := 24) rfl rfl ho_T rfl rfl ?_
      refine wq_st (k := 2) (i := .istore_n 2) (n := 1) (ls' := [some (.ref 0), some (dz_I a1), some (dz_I (Z 2 1 0))]) (pc' := 25) rfl rfl rfl rfl rfl ?_
      refine wp_s (i := .aload_n 0) (n := 1) (pc' := 26) (st' := [.ref 0]) rfl rfl ?_
      refine wq_gr (idx := 20) (a := 2) (pc' := 29) rfl rfl ho_O rfl rfl ?_
      refine wp_s (i := .iload_n 1) (n := 1) (pc' := 30) (st' := [dz_I a1, .ref 2]) rfl rfl ?_
      refine wq_pi (idx := 70) (x := a1) (pc' := 33) rfl rfl rfl ho_T rfl rfl rfl rfl (fun Z3 eZ3 => ?_)
      replace H := dz_le H Z3 eZ3
      clear eZ3
      refine wp_s (i := .iload_n 2) (n := 1) (pc' := 34) (st' := [dz_I (Z 2 1 0)]) rfl rfl ?_
      refine wq_ri rfl rfl ?_
      replace H := dz_sm H
      exact H
    · replace H := dz_if c2 H
      refine wp_s (i := .iconst (-1)) (n := 1) (pc' := 16) (st' := [dz_I (-1)]) rfl rfl ?_
      refine wq_ri rfl rfl ?_
      replace H := dz_sm H
      exact H
-- 67
def jf_O_takeWhatWasRead (Z : dz_Z) : Option (dz_Z) := if hz_isP (Z 0 2 0).toNat then if hz_isS (Z 0 3 0).toNat then if hz_isP (Z 1 1 0).toNat then dz_a (dz_u Z 0 2 0 ((Z 1 1 0).toNat : Nat)) fun Z4 => if hz_isS (Z4 1 2 0).toNat then dz_a (dz_u Z4 0 3 0 ((Z4 1 2 0).toNat : Nat)) fun Z6 => dz_a (dz_u Z6 1 1 0 ((Z 0 2 0).toNat : Nat)) fun Z7 => dz_a (dz_u Z7 1 2 0 ((Z 0 3 0).toNat : Nat)) fun Z8 => Option.bind (jf_F_dryUp 46 Z8) fun q9 => dz_lp (fun (s10 : Int × dz_Z) => if 2 ≤ dz_c s10.1 then (some (Sum.inr s10.2)) else (if 0 ≤ dz_c s10.1 ∧ dz_c s10.1 < 2 then dz_a (dz_u s10.2 (68 + 19 * Int.toNat (dz_c s10.1)) 2 0 0) fun Z13 => some (Sum.inl (s10.1 + 1, Z13)) else none)) 5000 (0, q9) else none else none else none else none
set_option maxRecDepth 20000 in
theorem jw_O_takeWhatWasRead {X : Option (List Int32)} {D : Nat} {Q : Option Value → mm_H → Prop} (Z : dz_Z) (H : dz_p (jf_O_takeWhatWasRead Z) (fun q => Q (none) (hz_0 q))) : mm_Wp X (D + 2) mm_r67 0 [some (.ref 0), none, none, none] [] (hz_0 Z) Q := by
  unfold jf_O_takeWhatWasRead at H
  refine wp_s (i := .aload_n 0) (n := 1) (pc' := 1) (st' := [.ref 0]) rfl rfl ?_
  obtain ⟨k1, H⟩ := dz_ck H
  refine wq_gd (idx := 24) (pc' := 4) rfl rfl ho_O rfl rfl ?_
  refine wp_s (i := .astore_n 1) (n := 1) (pc' := 5) (ls' := [some (.ref 0), some (.ref ((Z 0 2 0).toNat)), none, none]) (st' := []) rfl rfl ?_
  refine wp_s (i := .aload_n 0) (n := 1) (pc' := 6) (st' := [.ref 0]) rfl rfl ?_
  obtain ⟨k2, H⟩ := dz_ck H
  refine wq_gd (idx := 31) (pc' := 9) rfl rfl ho_O rfl rfl ?_
  refine wp_s (i := .astore_n 2) (n := 1) (pc' := 10) (ls' := [some (.ref 0), some (.ref ((Z 0 2 0).toNat)), some (.ref ((Z 0 3 0).toNat)), none]) (st' := []) rfl rfl ?_
  refine wp_s (i := .aload_n 0) (n := 1) (pc' := 11) (st' := [.ref 0]) rfl rfl ?_
  refine wp_s (i := .aload_n 0) (n := 1) (pc' := 12) (st' := [.ref 0, .ref 0]) rfl rfl ?_
  refine wq_gr (idx := 10) (a := 1) (pc' := 15) rfl rfl ho_O rfl rfl ?_
  obtain ⟨k3, H⟩ := dz_ck H
  refine wq_gd (idx := 99) (pc' := 18) rfl rfl ho_R rfl rfl ?_
  refine wq_pr (idx := 24) (a := (Z 1 1 0).toNat) (pc' := 21) rfl rfl rfl ho_O rfl rfl rfl rfl (fun Z4 eZ4 => ?_)
  replace H := dz_le H Z4 eZ4
  clear eZ4
  refine wp_s (i := .aload_n 0) (n := 1) (pc' := 22) (st' := [.ref 0]) rfl rfl ?_
  refine wp_s (i := .aload_n 0) (n := 1) (pc' := 23) (st' := [.ref 0, .ref 0]) rfl rfl ?_
  refine wq_gr (idx := 10) (a := 1) (pc' := 26) rfl rfl ho_O rfl rfl ?_
  obtain ⟨k5, H⟩ := dz_ck H
  refine wq_gd (idx := 100) (pc' := 29) rfl rfl ho_R rfl rfl ?_
  refine wq_pr (idx := 31) (a := (Z4 1 2 0).toNat) (pc' := 32) rfl rfl rfl ho_O rfl rfl rfl rfl (fun Z6 eZ6 => ?_)
  replace H := dz_le H Z6 eZ6
  clear eZ6
  refine wp_s (i := .aload_n 0) (n := 1) (pc' := 33) (st' := [.ref 0]) rfl rfl ?_
  refine wq_gr (idx := 10) (a := 1) (pc' := 36) rfl rfl ho_O rfl rfl ?_
  refine wp_s (i := .aload_n 1) (n := 1) (pc' := 37) (st' := [.ref ((Z 0 2 0).toNat), .ref 1]) rfl rfl ?_
  refine wq_pr (idx := 99) (a := (Z 0 2 0).toNat) (pc' := 40) rfl rfl rfl ho_R rfl rfl rfl rfl (fun Z7 eZ7 => ?_)
  replace H := dz_le H Z7 eZ7
  clear eZ7
  refine wp_s (i := .aload_n 0) (n := 1) (pc' := 41) (st' := [.ref 0]) rfl rfl ?_
  refine wq_gr (idx := 10) (a := 1) (pc' := 44) rfl rfl ho_O rfl rfl ?_
  refine wp_s (i := .aload_n 2) (n := 1) (pc' := 45) (st' := [.ref ((Z 0 3 0).toNat), .ref 1]) rfl rfl ?_
  refine wq_pr (idx := 100) (a := (Z 0 3 0).toNat) (pc' := 48) rfl rfl rfl ho_R rfl rfl rfl rfl (fun Z8 eZ8 => ?_)
  replace H := dz_le H Z8 eZ8
  clear eZ8
  refine wp_s (i := .aload_n 0) (n := 1) (pc' := 49) (st' := [.ref 0]) rfl rfl ?_
  refine wq_gr (idx := 38) (a := 46) (pc' := 52) rfl rfl ho_O rfl rfl ?_
  refine wq_cv (Dq := (D + 1)) (r' := mm_r10) (as0 := []) (rest := []) (ls' := [some (.ref 46)]) (pc' := 55) rfl rfl rfl rfl (ho_F (Or.inl rfl)) rfl rfl rfl ?_
  refine jw_F_dryUp (X := X) (D := D + 0) 46 (Or.inl rfl) Z8 (dz_pm (dz_bi H) (fun q9 H => ?_))
  show mm_Wp X (D + 2) mm_r67 55 [some (.ref 0), some (.ref ((Z 0 2 0).toNat)), some (.ref ((Z 0 3 0).toNat)), none] [] (hz_0 q9) Q
  refine wp_s (i := .iconst 0) (n := 1) (pc' := 56) (st' := [dz_I 0]) rfl rfl ?_
  refine wq_st (k := 3) (i := .istore_n 3) (n := 1) (ls' := [some (.ref 0), some (.ref ((Z 0 2 0).toNat)), some (.ref ((Z 0 3 0).toNat)), some (dz_I 0)]) (pc' := 57) rfl rfl rfl rfl rfl ?_
  refine dz_lpi (P := fun (s10 : Int × dz_Z) => mm_Wp X (D + 2) mm_r67 57 [some (.ref 0), some (.ref ((Z 0 2 0).toNat)), some (.ref ((Z 0 3 0).toNat)), some (dz_I s10.1)] [] (hz_0 s10.2) Q) (fun s10 H => ?_) 5000 (0, q9) H
  refine wp_s (i := .iload_n 3) (n := 1) (pc' := 58) (st' := [dz_I s10.1]) rfl rfl ?_
  refine wp_s (i := .iconst 2) (n := 1) (pc' := 59) (st' := [dz_I 2, dz_I s10.1]) rfl rfl ?_
  refine wq_ic (p := 2 ≤ dz_c s10.1) (tt := 78) (pc' := 62) rfl rfl (cq_ge rfl dk_2) rfl (fun c11 => ?_) (fun c11 => ?_)
  · replace H := dz_it c11 H
    refine wq_rv rfl rfl ?_
    replace H := dz_out H
    replace H := dz_sm H
    exact H
  · replace H := dz_if c11 H
    refine wp_s (i := .aload_n 0) (n := 1) (pc' := 63) (st' := [.ref 0]) rfl rfl ?_
    refine wq_gr (idx := 58) (a := 66) (pc' := 66) rfl rfl ho_O rfl rfl ?_
    refine wp_s (i := .iload_n 3) (n := 1) (pc' := 67) (st' := [dz_I s10.1, .ref 66]) rfl rfl ?_
    obtain ⟨k12, H⟩ := dz_ck H
    refine wq_aa (j' := dz_c s10.1) (a := 68 + 19 * Int.toNat (dz_c s10.1)) (pc' := 68) rfl (by decide) ha_O_7 rfl k12.1 k12.2 (hr_I k12.1 k12.2) rfl ?_
    refine wp_s (i := .iconst 0) (n := 1) (pc' := 69) (st' := [dz_I 0, .ref (68 + 19 * Int.toNat (dz_c s10.1))]) rfl rfl ?_
    refine wq_pi (idx := 104) (x := 0) (pc' := 72) rfl rfl rfl (ho_I (hi_I k12.1 k12.2)) rfl rfl rfl rfl (fun Z13 eZ13 => ?_)
    replace H := dz_le H Z13 eZ13
    clear eZ13
    refine wq_inc (k := 3) (d := 1) (x := s10.1) (ls' := [some (.ref 0), some (.ref ((Z 0 2 0).toNat)), some (.ref ((Z 0 3 0).toNat)), some (dz_I (s10.1 + 1))]) (pc' := 75) rfl rfl rfl rfl ?_
    refine wp_s (i := .goto (-18)) (n := 3) (pc' := 57) (st' := []) rfl rfl ?_
    replace H := dz_back H
    exact H
-- 66
def jf_O_organ (Z : dz_Z) : Option (Int × dz_Z) := Option.bind (jf_R_begin Z) fun q1 => dz_lp (fun (s2 : Int × dz_Z) => if 320 ≤ dz_c s2.1 then (dz_a (dz_u s2.2 2 1 0 0) fun Z4 => dz_a (dz_u Z4 0 9 0 (Z4 1 3 0)) fun Z5 => if dz_c (Z5 0 9 0) = 0 then (Option.bind (jf_O_takeWhatWasRead Z5) fun q7 => some (Sum.inr (s2.1, q7))) else (some (Sum.inr ((-10) - (Z5 1 4 0), Z5)))) else (Option.bind (jf_R_readLine s2.2) fun q8 => if q8.1 = false then (dz_a (dz_u q8.2 2 1 0 0) fun Z10 => dz_a (dz_u Z10 0 9 0 (Z10 1 3 0)) fun Z11 => if dz_c (Z11 0 9 0) = 0 then (Option.bind (jf_O_takeWhatWasRead Z11) fun q13 => some (Sum.inr (s2.1, q13))) else (some (Sum.inr ((-10) - (Z11 1 4 0), Z11)))) else (some (Sum.inl (s2.1 + 1, q8.2))))) 5000 (0, q1)
set_option maxRecDepth 20000 in
theorem jw_O_organ {X : Option (List Int32)} {D : Nat} {Q : Option Value → mm_H → Prop} (Z : dz_Z) (H : dz_p (jf_O_organ Z) (fun q => Q (some (dz_I q.1)) (hz_0 q.2))) : mm_Wp X (D + 9) mm_r66 0 [some (.ref 0), none] [] (hz_0 Z) Q := by
  unfold jf_O_organ at H
  refine wp_s (i := .iconst 0) (n := 1) (pc' := 1) (st' := [dz_I 0]) rfl rfl ?_
  refine wq_st (k := 1) (i := .istore_n 1) (n := 1) (ls' := [some (.ref 0), some (dz_I 0)]) (pc' := 2) rfl rfl rfl rfl rfl ?_
  refine wp_s (i := .aload_n 0) (n := 1) (pc' := 3) (st' := [.ref 0]) rfl rfl ?_
  refine wq_gr (idx := 10) (a := 1) (pc' := 6) rfl rfl ho_O rfl rfl ?_
  refine wq_cv (Dq := (D + 8)) (r' := mm_r29) (as0 := []) (rest := []) (ls' := [some (.ref 1)]) (pc' := 9) rfl rfl rfl rfl ho_R rfl rfl rfl ?_
  refine jw_R_begin (X := X) (D := D + 6) Z (dz_pm (dz_bi H) (fun q1 H => ?_))
  show mm_Wp X (D + 9) mm_r66 9 [some (.ref 0), some (dz_I 0)] [] (hz_0 q1) Q
  refine dz_lpi (P := fun (s2 : Int × dz_Z) => mm_Wp X (D + 9) mm_r66 9 [some (.ref 0), some (dz_I s2.1)] [] (hz_0 s2.2) Q) (fun s2 H => ?_) 5000 (0, q1) H
  refine wp_s (i := .iload_n 1) (n := 1) (pc' := 10) (st' := [dz_I s2.1]) rfl rfl ?_
  refine wp_s (i := .sipush 320) (n := 3) (pc' := 13) (st' := [dz_I 320, dz_I s2.1]) rfl rfl ?_
  refine wq_ic (p := 320 ≤ dz_c s2.1) (tt := 32) (pc' := 16) rfl rfl (cq_ge rfl dk_320) rfl (fun c3 => ?_) (fun c3 => ?_)
  · replace H := dz_it c3 H
    refine wp_s (i := .aload_n 0) (n := 1) (pc' := 33) (st' := [.ref 0]) rfl rfl ?_
    refine wq_gr (idx := 20) (a := 2) (pc' := 36) rfl rfl ho_O rfl rfl ?_
    refine wp_s (i := .iconst 0) (n := 1) (pc' := 37) (st' := [dz_I 0, .ref 2]) rfl rfl ?_
    refine wq_pi (idx := 70) (x := 0) (pc' := 40) rfl rfl rfl ho_T rfl rfl rfl rfl (fun Z4 eZ4 => ?_)
    replace H := dz_le H Z4 eZ4
    clear eZ4
    refine wp_s (i := .aload_n 0) (n := 1) (pc' := 41) (st' := [.ref 0]) rfl rfl ?_
    refine wp_s (i := .aload_n 0) (n := 1) (pc' := 42) (st' := [.ref 0, .ref 0]) rfl rfl ?_
    refine wq_gr (idx := 10) (a := 1) (pc' := 45) rfl rfl ho_O rfl rfl ?_
    refine wq_gi (idx := 87) (pc' := 48) rfl rfl ho_R rfl rfl ?_
    refine wq_pi (idx := 90) (x := Z4 1 3 0) (pc' := 51) rfl rfl rfl ho_O rfl rfl rfl rfl (fun Z5 eZ5 => ?_)
    replace H := dz_le H Z5 eZ5
    clear eZ5
    refine wp_s (i := .aload_n 0) (n := 1) (pc' := 52) (st' := [.ref 0]) rfl rfl ?_
    refine wq_gi (idx := 90) (pc' := 55) rfl rfl ho_O rfl rfl ?_
    refine wq_if (p := dz_c (Z5 0 9 0) = 0) (tt := 69) (pc' := 58) rfl rfl (cz_eq rfl) rfl (fun c6 => ?_) (fun c6 => ?_)
    · replace H := dz_it c6 H
      refine wp_s (i := .aload_n 0) (n := 1) (pc' := 70) (st' := [.ref 0]) rfl rfl ?_
      refine wq_cv (Dq := (D + 8)) (r' := mm_r67) (as0 := []) (rest := []) (ls' := [some (.ref 0), none, none, none]) (pc' := 73) rfl rfl rfl rfl ho_O rfl rfl rfl ?_
      refine jw_O_takeWhatWasRead (X := X) (D := D + 6) Z5 (dz_pm (dz_bi H) (fun q7 H => ?_))
      show mm_Wp X (D + 9) mm_r66 73 [some (.ref 0), some (dz_I s2.1)] [] (hz_0 q7) Q
      refine wp_s (i := .iload_n 1) (n := 1) (pc' := 74) (st' := [dz_I s2.1]) rfl rfl ?_
      refine wq_ri rfl rfl ?_
      replace H := dz_out H
      replace H := dz_sm H
      exact H
    · replace H := dz_if c6 H
      refine wp_s (i := .bipush (-10)) (n := 2) (pc' := 60) (st' := [dz_I (-10)]) rfl rfl ?_
      refine wp_s (i := .aload_n 0) (n := 1) (pc' := 61) (st' := [.ref 0, dz_I (-10)]) rfl rfl ?_
      refine wq_gr (idx := 10) (a := 1) (pc' := 64) rfl rfl ho_O rfl rfl ?_
      refine wq_gi (idx := 93) (pc' := 67) rfl rfl ho_R rfl rfl ?_
      refine wq_2 (i := .isub) (z := (-10) - (Z5 1 4 0)) (pc' := 68) rfl rfl (op_sub _ _) rfl ?_
      refine wq_ri rfl rfl ?_
      replace H := dz_out H
      replace H := dz_sm H
      exact H
  · replace H := dz_if c3 H
    refine wp_s (i := .aload_n 0) (n := 1) (pc' := 17) (st' := [.ref 0]) rfl rfl ?_
    refine wq_gr (idx := 10) (a := 1) (pc' := 20) rfl rfl ho_O rfl rfl ?_
    refine wq_cv (Dq := (D + 8)) (r' := mm_r37) (as0 := []) (rest := []) (ls' := [some (.ref 1)]) (pc' := 23) rfl rfl rfl rfl ho_R rfl rfl rfl ?_
    refine jw_R_readLine (X := X) (D := D + 0) s2.2 (dz_pm (dz_bi H) (fun q8 H => ?_))
    show mm_Wp X (D + 9) mm_r66 23 [some (.ref 0), some (dz_I s2.1)] [dz_B q8.1] (hz_0 q8.2) Q
    refine wq_if (p := q8.1 = false) (tt := 32) (pc' := 26) rfl rfl (cb_eq) rfl (fun c9 => ?_) (fun c9 => ?_)
    · replace H := dz_it c9 H
      refine wp_s (i := .aload_n 0) (n := 1) (pc' := 33) (st' := [.ref 0]) rfl rfl ?_
      refine wq_gr (idx := 20) (a := 2) (pc' := 36) rfl rfl ho_O rfl rfl ?_
      refine wp_s (i := .iconst 0) (n := 1) (pc' := 37) (st' := [dz_I 0, .ref 2]) rfl rfl ?_
      refine wq_pi (idx := 70) (x := 0) (pc' := 40) rfl rfl rfl ho_T rfl rfl rfl rfl (fun Z10 eZ10 => ?_)
      replace H := dz_le H Z10 eZ10
      clear eZ10
      refine wp_s (i := .aload_n 0) (n := 1) (pc' := 41) (st' := [.ref 0]) rfl rfl ?_
      refine wp_s (i := .aload_n 0) (n := 1) (pc' := 42) (st' := [.ref 0, .ref 0]) rfl rfl ?_
      refine wq_gr (idx := 10) (a := 1) (pc' := 45) rfl rfl ho_O rfl rfl ?_
      refine wq_gi (idx := 87) (pc' := 48) rfl rfl ho_R rfl rfl ?_
      refine wq_pi (idx := 90) (x := Z10 1 3 0) (pc' := 51) rfl rfl rfl ho_O rfl rfl rfl rfl (fun Z11 eZ11 => ?_)
      replace H := dz_le H Z11 eZ11
      clear eZ11
      refine wp_s (i := .aload_n 0) (n := 1) (pc' := 52) (st' := [.ref 0]) rfl rfl ?_
      refine wq_gi (idx := 90) (pc' := 55) rfl rfl ho_O rfl rfl ?_
      refine wq_if (p := dz_c (Z11 0 9 0) = 0) (tt := 69) (pc' := 58) rfl rfl (cz_eq rfl) rfl (fun c12 => ?_) (fun c12 => ?_)
      · replace H := dz_it c12 H
        refine wp_s (i := .aload_n 0) (n := 1) (pc' := 70) (st' := [.ref 0]) rfl rfl ?_
        refine wq_cv (Dq := (D + 8)) (r' := mm_r67) (as0 := []) (rest := []) (ls' := [some (.ref 0), none, none, none]) (pc' := 73) rfl rfl rfl rfl ho_O rfl rfl rfl ?_
        refine jw_O_takeWhatWasRead (X := X) (D := D + 6) Z11 (dz_pm (dz_bi H) (fun q13 H => ?_))
        show mm_Wp X (D + 9) mm_r66 73 [some (.ref 0), some (dz_I s2.1)] [] (hz_0 q13) Q
        refine wp_s (i := .iload_n 1) (n := 1) (pc' := 74) (st' := [dz_I s2.1]) rfl rfl ?_
        refine wq_ri rfl rfl ?_
        replace H := dz_out H
        replace H := dz_sm H
        exact H
      · replace H := dz_if c12 H
        refine wp_s (i := .bipush (-10)) (n := 2) (pc' := 60) (st' := [dz_I (-10)]) rfl rfl ?_
        refine wp_s (i := .aload_n 0) (n := 1) (pc' := 61) (st' := [.ref 0, dz_I (-10)]) rfl rfl ?_
        refine wq_gr (idx := 10) (a := 1) (pc' := 64) rfl rfl ho_O rfl rfl ?_
        refine wq_gi (idx := 93) (pc' := 67) rfl rfl ho_R rfl rfl ?_
        refine wq_2 (i := .isub) (z := (-10) - (Z11 1 4 0)) (pc' := 68) rfl rfl (op_sub _ _) rfl ?_
        refine wq_ri rfl rfl ?_
        replace H := dz_out H
        replace H := dz_sm H
        exact H
    · replace H := dz_if c9 H
      refine wq_inc (k := 1) (d := 1) (x := s2.1) (ls' := [some (.ref 0), some (dz_I (s2.1 + 1))]) (pc' := 29) rfl rfl rfl rfl ?_
      refine wp_s (i := .goto (-20)) (n := 3) (pc' := 9) (st' := []) rfl rfl ?_
      replace H := dz_back H
      exact H
