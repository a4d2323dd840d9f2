section mg_25m04
-- 37
def jf_R_readLine (Z : dz_Z) : Option (Bool × dz_Z) := Option.bind (jf_R_nextToken Z) fun q1 => if q1.1 = true then (if dz_c (q1.2 1 8 0) ≠ 1 then (if dz_c (q1.2 1 8 0) = 2 then (Option.bind (jf_R_isNamed 0 q1.2) fun q5 => if q5 = false then (Option.bind (jf_R_isNamed 1 q1.2) fun q7 => if q7 = false then (Option.bind (jf_R_isNamed 3 q1.2) fun q9 => if q9 = false then (Option.bind (jf_R_isNamed 11 q1.2) fun q11 => if q11 = false then (Option.bind (jf_R_isNamed 12 q1.2) fun q13 => if q13 = false then (Option.bind (jf_R_isNamed 13 q1.2) fun q15 => if q15 = false then (Option.bind (jf_R_isNamed 14 q1.2) fun q17 => if q17 = false then (Option.bind (jf_R_fail 2 q1.2) fun q19 => some (q19.1, q19.2)) else (Option.bind (jf_R_readWear q1.2) fun q20 => some (q20.1, q20.2))) else (Option.bind (jf_R_readSleep q1.2) fun q21 => some (q21.1, q21.2))) else (Option.bind (jf_R_readTune q1.2) fun q22 => some (q22.1, q22.2))) else (Option.bind (jf_R_readRain q1.2) fun q23 => some (q23.1, q23.2))) else (Option.bind (jf_R_readSpout q1.2) fun q24 => some (q24.1, q24.2))) else (Option.bind (jf_R_readPeg q1.2) fun q25 => some (q25.1, q25.2))) else (Option.bind (jf_R_readRoof q1.2) fun q26 => some (q26.1, q26.2))) else (Option.bind (jf_R_fail 2 q1.2) fun q27 => some (q27.1, q27.2))) else (Option.bind (jf_R_allPartsAreThere q1.2) fun q28 => if q28 = true then (some (false, q1.2)) else (Option.bind (jf_R_fail 6 q1.2) fun q30 => some (false, q30.2)))) else (some (false, q1.2))
set_option maxRecDepth 20000 in
theorem jw_R_readLine {X : Option (List Int32)} {D : Nat} {Q : Option Value → mm_H → Prop} (Z : dz_Z) (H : dz_p (jf_R_readLine Z) (fun q => Q (some (dz_B q.1)) (hz_0 q.2))) : mm_Wp X (D + 8) mm_r37 0 [some (.ref 1)] [] (hz_0 Z) Q := by
  unfold jf_R_readLine at H
  refine wp_s (i := .aload_n 0) (n := 1) (pc' := 1) (st' := [.ref 1]) rfl rfl ?_
  refine wq_cv (Dq := (D + 7)) (r' := mm_r31) (as0 := []) (rest := []) (ls' := [some (.ref 1), none]) (pc' := 4) rfl rfl rfl rfl ho_R rfl rfl rfl ?_
  refine jw_R_nextToken (X := X) (D := D + 6) Z (dz_pm (dz_bi H) (fun q1 H => ?_))
  show mm_Wp X (D + 8) mm_r37 4 [some (.ref 1)] [dz_B q1.1] (hz_0 q1.2) Q
  refine wq_if (p := q1.1 = true) (tt := 9) (pc' := 7) rfl rfl (cb_ne) rfl (fun c2 => ?_) (fun c2 => ?_)
  · replace H := dz_it c2 H
    refine wp_s (i := .aload_n 0) (n := 1) (pc' := 10) (st' := [.ref 1]) rfl rfl ?_
    refine wq_gi (idx := 64) (pc' := 13) rfl rfl ho_R rfl rfl ?_
    refine wp_s (i := .iconst 1) (n := 1) (pc' := 14) (st' := [dz_I 1, dz_I (q1.2 1 8 0)]) rfl rfl ?_
    refine wq_ic (p := dz_c (q1.2 1 8 0) ≠ 1) (tt := 33) (pc' := 17) rfl rfl (cq_ne rfl dk_1) rfl (fun c3 => ?_) (fun c3 => ?_)
    · replace H := dz_it c3 H
      refine wp_s (i := .aload_n 0) (n := 1) (pc' := 34) (st' := [.ref 1]) rfl rfl ?_
      refine wq_gi (idx := 64) (pc' := 37) rfl rfl ho_R rfl rfl ?_
      refine wp_s (i := .iconst 2) (n := 1) (pc' := 38) (st' := [dz_I 2, dz_I (q1.2 1 8 0)]) rfl rfl ?_
      refine wq_ic (p := dz_c (q1.2 1 8 0) = 2) (tt := 47) (pc' := 41) rfl rfl (cq_eq rfl dk_2) rfl (fun c4 => ?_) (fun c4 => ?_)
      · replace H := dz_it c4 H
        refine wp_s (i := .aload_n 0) (n := 1) (pc' := 48) (st' := [.ref 1]) rfl rfl ?_
        refine wp_s (i := .ldc 93) (n := 2) (pc' := 50) (st' := [.retAddr (1 + 0), .ref 1]) rfl rfl ?_
        refine wq_cv (Dq := (D + 7)) (r' := mm_r34) (as0 := [.retAddr (1 + 0)]) (rest := []) (ls' := [some (.ref 1), some (.retAddr (1 + 0)), none]) (pc' := 53) rfl rfl rfl rfl ho_R rfl rfl rfl ?_
        refine jw_R_isNamed (X := X) (D := D + 3) 0 (by decide) q1.2 (dz_pm (dz_bi H) (fun q5 H => ?_))
        show mm_Wp X (D + 8) mm_r37 53 [some (.ref 1)] [dz_B q5] (hz_0 q1.2) Q
        refine wq_if (p := q5 = false) (tt := 61) (pc' := 56) rfl rfl (cb_eq) rfl (fun c6 => ?_) (fun c6 => ?_)
        · replace H := dz_it c6 H
          refine wp_s (i := .aload_n 0) (n := 1) (pc' := 62) (st' := [.ref 1]) rfl rfl ?_
          refine wp_s (i := .ldc 102) (n := 2) (pc' := 64) (st' := [.retAddr (1 + 1), .ref 1]) rfl rfl ?_
          refine wq_cv (Dq := (D + 7)) (r' := mm_r34) (as0 := [.retAddr (1 + 1)]) (rest := []) (ls' := [some (.ref 1), some (.retAddr (1 + 1)), none]) (pc' := 67) rfl rfl rfl rfl ho_R rfl rfl rfl ?_
          refine jw_R_isNamed (X := X) (D := D + 3) 1 (by decide) q1.2 (dz_pm (dz_bi H) (fun q7 H => ?_))
          show mm_Wp X (D + 8) mm_r37 67 [some (.ref 1)] [dz_B q7] (hz_0 q1.2) Q
          refine wq_if (p := q7 = false) (tt := 75) (pc' := 70) rfl rfl (cb_eq) rfl (fun c8 => ?_) (fun c8 => ?_)
          · replace H := dz_it c8 H
            refine wp_s (i := .aload_n 0) (n := 1) (pc' := 76) (st' := [.ref 1]) rfl rfl ?_
            refine wp_s (i := .ldc 107) (n := 2) (pc' := 78) (st' := [.retAddr (1 + 3), .ref 1]) rfl rfl ?_
            refine wq_cv (Dq := (D + 7)) (r' := mm_r34) (as0 := [.retAddr (1 + 3)]) (rest := []) (ls' := [some (.ref 1), some (.retAddr (1 + 3)), none]) (pc' := 81) rfl rfl rfl rfl ho_R rfl rfl rfl ?_
            refine jw_R_isNamed (X := X) (D := D + 3) 3 (by decide) q1.2 (dz_pm (dz_bi H) (fun q9 H => ?_))
            show mm_Wp X (D + 8) mm_r37 81 [some (.ref 1)] [dz_B q9] (hz_0 q1.2) Q
            refine wq_if (p := q9 = false) (tt := 89) (pc' := 84) rfl rfl (cb_eq) rfl (fun c10 => ?_) (fun c10 => ?_)
            · replace H := dz_it c10 H
              refine wp_s (i := .aload_n 0) (n := 1) (pc' := 90) (st' := [.ref 1]) rfl rfl ?_
              refine wp_s (i := .ldc 112) (n := 2) (pc' := 92) (st' := [.retAddr (1 + 11), .ref 1]) rfl rfl ?_
              refine wq_cv (Dq := (D + 7)) (r' := mm_r34) (as0 := [.retAddr (1 + 11)]) (rest := []) (ls' := [some (.ref 1), some (.retAddr (1 + 11)), none]) (pc' := 95) rfl rfl rfl rfl ho_R rfl rfl rfl ?_
              refine jw_R_isNamed (X := X) (D := D + 3) 11 (by decide) q1.2 (dz_pm (dz_bi H) (fun q11 H => ?_))
              show mm_Wp X (D + 8) mm_r37 95 [some (.ref 1)] [dz_B q11] (hz_0 q1.2) Q
              refine wq_if (p := q11 = false) (tt := 103) (pc' := 98) rfl rfl (cb_eq) rfl (fun c12 => ?_) (fun c12 => ?_)
              · replace H := dz_it c12 H
                refine wp_s (i := .aload_n 0) (n := 1) (pc' := 104) (st' := [.ref 1]) rfl rfl ?_
                refine wp_s (i := .ldc 117) (n := 2) (pc' := 106) (st' := [.retAddr (1 + 12), .ref 1]) rfl rfl ?_
                refine wq_cv (Dq := (D + 7)) (r' := mm_r34) (as0 := [.retAddr (1 + 12)]) (rest := []) (ls' := [some (.ref 1), some (.retAddr (1 + 12)), none]) (pc' := 109) rfl rfl rfl rfl ho_R rfl rfl rfl ?_
                refine jw_R_isNamed (X := X) (D := D + 3) 12 (by decide) q1.2 (dz_pm (dz_bi H) (fun q13 H => ?_))
                show mm_Wp X (D + 8) mm_r37 109 [some (.ref 1)] [dz_B q13] (hz_0 q1.2) Q
                refine wq_if (p := q13 = false) (tt := 117) (pc' := 112) rfl rfl (cb_eq) rfl (fun c14 => ?_) (fun c14 => ?_)
                · replace H := dz_it c14 H
                  refine wp_s (i := .aload_n 0) (n := 1) (pc' := 118) (st' := [.ref 1]) rfl rfl ?_
                  refine wp_s (i := .ldc 122) (n := 2) (pc' := 120) (st' := [.retAddr (1 + 13), .ref 1]) rfl rfl ?_
                  refine wq_cv (Dq := (D + 7)) (r' := mm_r34) (as0 := [.retAddr (1 + 13)]) (rest := []) (ls' := [some (.ref 1), some (.retAddr (1 + 13)), none]) (pc' := 123) rfl rfl rfl rfl ho_R rfl rfl rfl ?_
                  refine jw_R_isNamed (X := X) (D := D + 3) 13 (by decide) q1.2 (dz_pm (dz_bi H) (fun q15 H => ?_))
                  show mm_Wp X (D + 8) mm_r37 123 [some (.ref 1)] [dz_B q15] (hz_0 q1.2) Q
                  refine wq_if (p := q15 = false) (tt := 131) (pc' := 126) rfl rfl (cb_eq) rfl (fun c16 => ?_) (fun c16 => ?_)
                  · replace H := dz_it c16 H
                    refine wp_s (i := .aload_n 0) (n := 1) (pc' := 132) (st' := [.ref 1]) rfl rfl ?_
                    refine wp_s (i := .ldc 127) (n := 2) (pc' := 134) (st' := [.retAddr (1 + 14), .ref 1]) rfl rfl ?_
                    refine wq_cv (Dq := (D + 7)) (r' := mm_r34) (as0 := [.retAddr (1 + 14)]) (rest := []) (ls' := [some (.ref 1), some (.retAddr (1 + 14)), none]) (pc' := 137) rfl rfl rfl rfl ho_R rfl rfl rfl ?_
                    refine jw_R_isNamed (X := X) (D := D + 3) 14 (by decide) q1.2 (dz_pm (dz_bi H) (fun q17 H => ?_))
                    show mm_Wp X (D + 8) mm_r37 137 [some (.ref 1)] [dz_B q17] (hz_0 q1.2) Q
                    refine wq_if (p := q17 = false) (tt := 145) (pc' := 140) rfl rfl (cb_eq) rfl (fun c18 => ?_) (fun c18 => ?_)
                    · replace H := dz_it c18 H
                      refine wp_s (i := .aload_n 0) (n := 1) (pc' := 146) (st' := [.ref 1]) rfl rfl ?_
                      refine wp_s (i := .iconst 2) (n := 1) (pc' := 147) (st' := [dz_I 2, .ref 1]) rfl rfl ?_
                      refine wq_cv (Dq := (D + 7)) (r' := mm_r30) (as0 := [dz_I 2]) (rest := []) (ls' := [some (.ref 1), some (dz_I 2)]) (pc' := 150) rfl rfl rfl rfl ho_R rfl rfl rfl ?_
                      refine jw_R_fail (X := X) (D := D + 7) 2 q1.2 (dz_pm (dz_bi H) (fun q19 H => ?_))
                      show mm_Wp X (D + 8) mm_r37 150 [some (.ref 1)] [dz_B q19.1] (hz_0 q19.2) Q
                      refine wq_rb rfl rfl ?_
                      replace H := dz_sm H
                      exact H
                    · replace H := dz_if c18 H
                      refine wp_s (i := .aload_n 0) (n := 1) (pc' := 141) (st' := [.ref 1]) rfl rfl ?_
                      refine wq_cv (Dq := (D + 7)) (r' := mm_r49) (as0 := []) (rest := []) (ls' := [some (.ref 1)]) (pc' := 144) rfl rfl rfl rfl ho_R rfl rfl rfl ?_
                      refine jw_R_readWear (X := X) (D := D + 4) q1.2 (dz_pm (dz_bi H) (fun q20 H => ?_))
                      show mm_Wp X (D + 8) mm_r37 144 [some (.ref 1)] [dz_B q20.1] (hz_0 q20.2) Q
                      refine wq_rb rfl rfl ?_
                      replace H := dz_sm H
                      exact H
                  · replace H := dz_if c16 H
                    refine wp_s (i := .aload_n 0) (n := 1) (pc' := 127) (st' := [.ref 1]) rfl rfl ?_
                    refine wq_cv (Dq := (D + 7)) (r' := mm_r48) (as0 := []) (rest := []) (ls' := [some (.ref 1), none]) (pc' := 130) rfl rfl rfl rfl ho_R rfl rfl rfl ?_
                    refine jw_R_readSleep (X := X) (D := D + 4) q1.2 (dz_pm (dz_bi H) (fun q21 H => ?_))
                    show mm_Wp X (D + 8) mm_r37 130 [some (.ref 1)] [dz_B q21.1] (hz_0 q21.2) Q
                    refine wq_rb rfl rfl ?_
                    replace H := dz_sm H
                    exact H
                · replace H := dz_if c14 H
                  refine wp_s (i := .aload_n 0) (n := 1) (pc' := 113) (st' := [.ref 1]) rfl rfl ?_
                  refine wq_cv (Dq := (D + 7)) (r' := mm_r45) (as0 := []) (rest := []) (ls' := [some (.ref 1)]) (pc' := 116) rfl rfl rfl rfl ho_R rfl rfl rfl ?_
                  refine jw_R_readTune (X := X) (D := D + 3) q1.2 (dz_pm (dz_bi H) (fun q22 H => ?_))
                  show mm_Wp X (D + 8) mm_r37 116 [some (.ref 1)] [dz_B q22.1] (hz_0 q22.2) Q
                  refine wq_rb rfl rfl ?_
                  replace H := dz_sm H
                  exact H
              · replace H := dz_if c12 H
                refine wp_s (i := .aload_n 0) (n := 1) (pc' := 99) (st' := [.ref 1]) rfl rfl ?_
                refine wq_cv (Dq := (D + 7)) (r' := mm_r44) (as0 := []) (rest := []) (ls' := [some (.ref 1), none, none]) (pc' := 102) rfl rfl rfl rfl ho_R rfl rfl rfl ?_
                refine jw_R_readRain (X := X) (D := D + 3) q1.2 (dz_pm (dz_bi H) (fun q23 H => ?_))
                show mm_Wp X (D + 8) mm_r37 102 [some (.ref 1)] [dz_B q23.1] (hz_0 q23.2) Q
                refine wq_rb rfl rfl ?_
                replace H := dz_sm H
                exact H
            · replace H := dz_if c10 H
              refine wp_s (i := .aload_n 0) (n := 1) (pc' := 85) (st' := [.ref 1]) rfl rfl ?_
              refine wq_cv (Dq := (D + 7)) (r' := mm_r41) (as0 := []) (rest := []) (ls' := [some (.ref 1), none]) (pc' := 88) rfl rfl rfl rfl ho_R rfl rfl rfl ?_
              refine jw_R_readSpout (X := X) (D := D + 0) q1.2 (dz_pm (dz_bi H) (fun q24 H => ?_))
              show mm_Wp X (D + 8) mm_r37 88 [some (.ref 1)] [dz_B q24.1] (hz_0 q24.2) Q
              refine wq_rb rfl rfl ?_
              replace H := dz_sm H
              exact H
          · replace H := dz_if c8 H
            refine wp_s (i := .aload_n 0) (n := 1) (pc' := 71) (st' := [.ref 1]) rfl rfl ?_
            refine wq_cv (Dq := (D + 7)) (r' := mm_r39) (as0 := []) (rest := []) (ls' := [some (.ref 1), none]) (pc' := 74) rfl rfl rfl rfl ho_R rfl rfl rfl ?_
            refine jw_R_readPeg (X := X) (D := D + 1) q1.2 (dz_pm (dz_bi H) (fun q25 H => ?_))
            show mm_Wp X (D + 8) mm_r37 74 [some (.ref 1)] [dz_B q25.1] (hz_0 q25.2) Q
            refine wq_rb rfl rfl ?_
            replace H := dz_sm H
            exact H
        · replace H := dz_if c6 H
          refine wp_s (i := .aload_n 0) (n := 1) (pc' := 57) (st' := [.ref 1]) rfl rfl ?_
          refine wq_cv (Dq := (D + 7)) (r' := mm_r38) (as0 := []) (rest := []) (ls' := [some (.ref 1), none]) (pc' := 60) rfl rfl rfl rfl ho_R rfl rfl rfl ?_
          refine jw_R_readRoof (X := X) (D := D + 4) q1.2 (dz_pm (dz_bi H) (fun q26 H => ?_))
          show mm_Wp X (D + 8) mm_r37 60 [some (.ref 1)] [dz_B q26.1] (hz_0 q26.2) Q
          refine wq_rb rfl rfl ?_
          replace H := dz_sm H
          exact H
      · replace H := dz_if c4 H
        refine wp_s (i := .aload_n 0) (n := 1) (pc' := 42) (st' := [.ref 1]) rfl rfl ?_
        refine wp_s (i := .iconst 2) (n := 1) (pc' := 43) (st' := [dz_I 2, .ref 1]) rfl rfl ?_
        refine wq_cv (Dq := (D + 7)) (r' := mm_r30) (as0 := [dz_I 2]) (rest := []) (ls' := [some (.ref 1), some (dz_I 2)]) (pc' := 46) rfl rfl rfl rfl ho_R rfl rfl rfl ?_
        refine jw_R_fail (X := X) (D := D + 7) 2 q1.2 (dz_pm (dz_bi H) (fun q27 H => ?_))
        show mm_Wp X (D + 8) mm_r37 46 [some (.ref 1)] [dz_B q27.1] (hz_0 q27.2) Q
        refine wq_rb rfl rfl ?_
        replace H := dz_sm H
        exact H
    · replace H := dz_if c3 H
      refine wp_s (i := .aload_n 0) (n := 1) (pc' := 18) (st' := [.ref 1]) rfl rfl ?_
      refine wq_cv (Dq := (D + 7)) (r' := mm_r50) (as0 := []) (rest := []) (ls' := [some (.ref 1), none]) (pc' := 21) rfl rfl rfl rfl ho_R rfl rfl rfl ?_
      refine jw_R_allPartsAreThere (X := X) (D := D + 6) q1.2 (dz_pm (dz_bi H) (fun q28 H => ?_))
      show mm_Wp X (D + 8) mm_r37 21 [some (.ref 1)] [dz_B q28] (hz_0 q1.2) Q
      refine wq_if (p := q28 = true) (tt := 31) (pc' := 24) rfl rfl (cb_ne) rfl (fun c29 => ?_) (fun c29 => ?_)
      · replace H := dz_it c29 H
        refine wp_s (i := .iconst 0) (n := 1) (pc' := 32) (st' := [dz_I 0]) rfl rfl ?_
        refine wq_rf rfl rfl ?_
        replace H := dz_sm H
        exact H
      · replace H := dz_if c29 H
        refine wp_s (i := .aload_n 0) (n := 1) (pc' := 25) (st' := [.ref 1]) rfl rfl ?_
        refine wp_s (i := .bipush 6) (n := 2) (pc' := 27) (st' := [dz_I 6, .ref 1]) rfl rfl ?_
        refine wq_cv (Dq := (D + 7)) (r' := mm_r30) (as0 := [dz_I 6]) (rest := []) (ls' := [some (.ref 1), some (dz_I 6)]) (pc' := 30) rfl rfl rfl rfl ho_R rfl rfl rfl ?_
        refine jw_R_fail (X := X) (D := D + 7) 6 q1.2 (dz_pm (dz_bi H) (fun q30 H => ?_))
        show mm_Wp X (D + 8) mm_r37 30 [some (.ref 1)] [dz_B q30.1] (hz_0 q30.2) Q
        refine wp_s (i := .pop) (n := 1) (pc' := 31) (st' := []) rfl rfl ?_
        refine wp_s (i := .iconst 0) (n := 1) (pc' := 32) (st' := [dz_I 0]) rfl rfl ?_
        refine wq_rf rfl rfl ?_
        replace H := dz_sm H
        exact H
  · replace H := dz_if c2 H
    refine wp_s (i := .iconst 0) (n := 1) (pc' := 8) (st' := [dz_I 0]) rfl rfl ?_
    refine wq_rf rfl rfl ?_
    replace H := dz_sm H
    exact H
-- 54
def jf_S_copyFrom (c0 : Nat) (a1 : Nat) (Z : dz_Z) : Option (dz_Z) := dz_a (dz_f Z c0 0 (Z a1 0)) fun Z1 => dz_a (dz_f Z1 c0 1 (Z1 a1 1)) fun Z2 => dz_a (dz_f Z2 c0 2 (Z2 a1 2)) fun Z3 => dz_a (dz_f Z3 c0 3 (Z3 a1 3)) fun Z4 => dz_lp (fun (s5 : Int × dz_Z) => if 3 ≤ dz_c s5.1 then (dz_a (dz_f s5.2 c0 5 (s5.2 a1 5)) fun Z7 => dz_a (dz_u Z7 c0 6 0 (Z7 a1 6 0)) fun Z8 => some (Sum.inr Z8)) else (if 0 ≤ dz_c s5.1 ∧ dz_c s5.1 < 3 then dz_a (dz_f s5.2 c0 (20 + Int.toNat (dz_c s5.1)) (s5.2 a1 (20 + Int.toNat (dz_c s5.1)))) fun Z10 => some (Sum.inl (s5.1 + 1, Z10)) else none)) 5000 (0, Z4)
set_option maxRecDepth 20000 in
theorem jw_S_copyFrom {X : Option (List Int32)} {D : Nat} {Q : Option Value → mm_H → Prop} (c0 : Nat) (hc0 : hz_isS c0) (a1 : Nat) (ha1 : hz_isS a1) (Z : dz_Z) (H : dz_p (jf_S_copyFrom c0 a1 Z) (fun q => Q (none) (hz_0 q))) : mm_Wp X (D + 1) mm_r54 0 [some (.ref c0), some (.ref a1), none] [] (hz_0 Z) Q := by
  unfold jf_S_copyFrom at H
  refine wp_s (i := .aload_n 1) (n := 1) (pc' := 1) (st' := [.ref a1]) rfl rfl ?_
  refine wq_gr (idx := 9) (a := a1 + 1) (pc' := 4) rfl rfl (ho_S ha1) rfl rfl ?_
  refine wp_s (i := .iconst 0) (n := 1) (pc' := 5) (st' := [dz_I 0, .ref (a1 + 1)]) rfl rfl ?_
  refine wp_s (i := .aload_n 0) (n := 1) (pc' := 6) (st' := [.ref c0, dz_I 0, .ref (a1 + 1)]) rfl rfl ?_
  refine wq_gr (idx := 9) (a := c0 + 1) (pc' := 9) rfl rfl (ho_S hc0) rfl rfl ?_
  refine wp_s (i := .iconst 0) (n := 1) (pc' := 10) (st' := [dz_I 0, .ref (c0 + 1), dz_I 0, .ref (a1 + 1)]) rfl rfl ?_
  refine wp_s (i := .iconst 5) (n := 1) (pc' := 11) (st' := [dz_I 5, dz_I 0, .ref (c0 + 1), dz_I 0, .ref (a1 + 1)]) rfl rfl ?_
  refine wq_cp (Dp := D) (n := 5) (tag := 0) (pc' := 14) rfl rfl (by decide) (ha_S_0 ha1) (ha_S_0 hc0) dk_5 rfl rfl (fun Z1 eZ1 => ?_)
  replace H := dz_le H Z1 eZ1
  clear eZ1
  refine wp_s (i := .aload_n 1) (n := 1) (pc' := 15) (st' := [.ref a1]) rfl rfl ?_
  refine wq_gr (idx := 15) (a := a1 + 2) (pc' := 18) rfl rfl (ho_S ha1) rfl rfl ?_
  refine wp_s (i := .iconst 0) (n := 1) (pc' := 19) (st' := [dz_I 0, .ref (a1 + 2)]) rfl rfl ?_
  refine wp_s (i := .aload_n 0) (n := 1) (pc' := 20) (st' := [.ref c0, dz_I 0, .ref (a1 + 2)]) rfl rfl ?_
  refine wq_gr (idx := 15) (a := c0 + 2) (pc' := 23) rfl rfl (ho_S hc0) rfl rfl ?_
  refine wp_s (i := .iconst 0) (n := 1) (pc' := 24) (st' := [dz_I 0, .ref (c0 + 2), dz_I 0, .ref (a1 + 2)]) rfl rfl ?_
  refine wp_s (i := .iconst 5) (n := 1) (pc' := 25) (st' := [dz_I 5, dz_I 0, .ref (c0 + 2), dz_I 0, .ref (a1 + 2)]) rfl rfl ?_
  refine wq_cp (Dp := D) (n := 5) (tag := 0) (pc' := 28) rfl rfl (by decide) (ha_S_1 ha1) (ha_S_1 hc0) dk_5 rfl rfl (fun Z2 eZ2 => ?_)
  replace H := dz_le H Z2 eZ2
  clear eZ2
  refine wp_s (i := .aload_n 1) (n := 1) (pc' := 29) (st' := [.ref a1]) rfl rfl ?_
  refine wq_gr (idx := 18) (a := a1 + 3) (pc' := 32) rfl rfl (ho_S ha1) rfl rfl ?_
  refine wp_s (i := .iconst 0) (n := 1) (pc' := 33) (st' := [dz_I 0, .ref (a1 + 3)]) rfl rfl ?_
  refine wp_s (i := .aload_n 0) (n := 1) (pc' := 34) (st' := [.ref c0, dz_I 0, .ref (a1 + 3)]) rfl rfl ?_
  refine wq_gr (idx := 18) (a := c0 + 3) (pc' := 37) rfl rfl (ho_S hc0) rfl rfl ?_
  refine wp_s (i := .iconst 0) (n := 1) (pc' := 38) (st' := [dz_I 0, .ref (c0 + 3), dz_I 0, .ref (a1 + 3)]) rfl rfl ?_
  refine wp_s (i := .bipush 8) (n := 2) (pc' := 40) (st' := [dz_I 8, dz_I 0, .ref (c0 + 3), dz_I 0, .ref (a1 + 3)]) rfl rfl ?_
  refine wq_cp (Dp := D) (n := 8) (tag := 0) (pc' := 43) rfl rfl (by decide) (ha_S_2 ha1) (ha_S_2 hc0) dk_8 rfl rfl (fun Z3 eZ3 => ?_)
  replace H := dz_le H Z3 eZ3
  clear eZ3
  refine wp_s (i := .aload_n 1) (n := 1) (pc' := 44) (st' := [.ref a1]) rfl rfl ?_
  refine wq_gr (idx := 21) (a := a1 + 4) (pc' := 47) rfl rfl (ho_S ha1) rfl rfl ?_
  refine wp_s (i := .iconst 0) (n := 1) (pc' := 48) (st' := [dz_I 0, .ref (a1 + 4)]) rfl rfl ?_
  refine wp_s (i := .aload_n 0) (n := 1) (pc' := 49) (st' := [.ref c0, dz_I 0, .ref (a1 + 4)]) rfl rfl ?_
  refine wq_gr (idx := 21) (a := c0 + 4) (pc' := 52) rfl rfl (ho_S hc0) rfl rfl ?_
  refine wp_s (i := .iconst 0) (n := 1) (pc' := 53) (st' := [dz_I 0, .ref (c0 + 4), dz_I 0, .ref (a1 + 4)]) rfl rfl ?_
  refine wp_s (i := .iconst 3) (n := 1) (pc' := 54) (st' := [dz_I 3, dz_I 0, .ref (c0 + 4), dz_I 0, .ref (a1 + 4)]) rfl rfl ?_
  refine wq_cp (Dp := D) (n := 3) (tag := 0) (pc' := 57) rfl rfl (by decide) (ha_S_3 ha1) (ha_S_3 hc0) dk_3 rfl rfl (fun Z4 eZ4 => ?_)
  replace H := dz_le H Z4 eZ4
  clear eZ4
  refine wp_s (i := .iconst 0) (n := 1) (pc' := 58) (st' := [dz_I 0]) rfl rfl ?_
  refine wq_st (k := 2) (i := .istore_n 2) (n := 1) (ls' := [some (.ref c0), some (.ref a1), some (dz_I 0)]) (pc' := 59) rfl rfl rfl rfl rfl ?_
  refine dz_lpi (P := fun (s5 : Int × dz_Z) => mm_Wp X (D + 1) mm_r54 59 [some (.ref c0), some (.ref a1), some (dz_I s5.1)] [] (hz_0 s5.2) Q) (fun s5 H => ?_) 5000 (0, Z4) H
  refine wp_s (i := .iload_n 2) (n := 1) (pc' := 60) (st' := [dz_I s5.1]) rfl rfl ?_
  refine wp_s (i := .iconst 3) (n := 1) (pc' := 61) (st' := [dz_I 3, dz_I s5.1]) rfl rfl ?_
  refine wq_ic (p := 3 ≤ dz_c s5.1) (tt := 89) (pc' := 64) rfl rfl (cq_ge rfl dk_3) rfl (fun c6 => ?_) (fun c6 => ?_)
  · replace H := dz_it c6 H
    refine wp_s (i := .aload_n 1) (n := 1) (pc' := 90) (st' := [.ref a1]) rfl rfl ?_
    refine wq_gr (idx := 29) (a := a1 + 9) (pc' := 93) rfl rfl (ho_S ha1) rfl rfl ?_
    refine wp_s (i := .iconst 0) (n := 1) (pc' := 94) (st' := [dz_I 0, .ref (a1 + 9)]) rfl rfl ?_
    refine wp_s (i := .aload_n 0) (n := 1) (pc' := 95) (st' := [.ref c0, dz_I 0, .ref (a1 + 9)]) rfl rfl ?_
    refine wq_gr (idx := 29) (a := c0 + 9) (pc' := 98) rfl rfl (ho_S hc0) rfl rfl ?_
    refine wp_s (i := .iconst 0) (n := 1) (pc' := 99) (st' := [dz_I 0, .ref (c0 + 9), dz_I 0, .ref (a1 + 9)]) rfl rfl ?_
    refine wp_s (i := .bipush 12) (n := 2) (pc' := 101) (st' := [dz_I 12, dz_I 0, .ref (c0 + 9), dz_I 0, .ref (a1 + 9)]) rfl rfl ?_
    refine wq_cp (Dp := D) (n := 12) (tag := 0) (pc' := 104) rfl rfl (by decide) (ha_S_5 ha1) (ha_S_5 hc0) dk_12 rfl rfl (fun Z7 eZ7 => ?_)
    replace H := dz_le H Z7 eZ7
    clear eZ7
    refine wp_s (i := .aload_n 0) (n := 1) (pc' := 105) (st' := [.ref c0]) rfl rfl ?_
    refine wp_s (i := .aload_n 1) (n := 1) (pc' := 106) (st' := [.ref a1, .ref c0]) rfl rfl ?_
    refine wq_gi (idx := 38) (pc' := 109) rfl rfl (ho_S ha1) rfl rfl ?_
    refine wq_pi (idx := 38) (x := Z7 a1 6 0) (pc' := 112) rfl rfl rfl (ho_S hc0) rfl rfl rfl rfl (fun Z8 eZ8 => ?_)
    replace H := dz_le H Z8 eZ8
    clear eZ8
    refine wq_rv rfl rfl ?_
    replace H := dz_out H
    replace H := dz_sm H
    exact H
  · replace H := dz_if c6 H
    refine wp_s (i := .aload_n 1) (n := 1) (pc' := 65) (st' := [.ref a1]) rfl rfl ?_
    refine wq_gr (idx := 26) (a := a1 + 5) (pc' := 68) rfl rfl (ho_S ha1) rfl rfl ?_
    refine wp_s (i := .iload_n 2) (n := 1) (pc' := 69) (st' := [dz_I s5.1, .ref (a1 + 5)]) rfl rfl ?_
    obtain ⟨k9, H⟩ := dz_ck H
    refine wq_aa (j' := dz_c s5.1) (a := a1 + 6 + Int.toNat (dz_c s5.1)) (pc' := 70) rfl (by decide) (ha_S_4 ha1) rfl k9.1 k9.2 (hr_S k9.1 k9.2) rfl ?_
    refine wp_s (i := .iconst 0) (n := 1) (pc' := 71) (st' := [dz_I 0, .ref (a1 + 6 + Int.toNat (dz_c s5.1))]) rfl rfl ?_
    refine wp_s (i := .aload_n 0) (n := 1) (pc' := 72) (st' := [.ref c0, dz_I 0, .ref (a1 + 6 + Int.toNat (dz_c s5.1))]) rfl rfl ?_
    refine wq_gr (idx := 26) (a := c0 + 5) (pc' := 75) rfl rfl (ho_S hc0) rfl rfl ?_
    refine wp_s (i := .iload_n 2) (n := 1) (pc' := 76) (st' := [dz_I s5.1, .ref (c0 + 5), dz_I 0, .ref (a1 + 6 + Int.toNat (dz_c s5.1))]) rfl rfl ?_
    refine wq_aa (j' := dz_c s5.1) (a := c0 + 6 + Int.toNat (dz_c s5.1)) (pc' := 77) rfl (by decide) (ha_S_4 hc0) rfl k9.1 k9.2 (hr_S k9.1 k9.2) rfl ?_
    refine wp_s (i := .iconst 0) (n := 1) (pc' := 78) (st' := [dz_I 0, .ref (c0 + 6 + Int.toNat (dz_c s5.1)), dz_I 0, .ref (a1 + 6 + Int.toNat (dz_c s5.1))]) rfl rfl ?_
    refine wp_s (i := .bipush 12) (n := 2) (pc' := 80) (st' := [dz_I 12, dz_I 0, .ref (c0 + 6 + Int.toNat (dz_c s5.1)), dz_I 0, .ref (a1 + 6 + Int.toNat (dz_c s5.1))]) rfl rfl ?_
    refine wq_cp (Dp := D) (n := 12) (tag := 0) (pc' := 83) rfl rfl (by decide) (ha_Sr ha1 k9.1 k9.2) (ha_Sr hc0 k9.1 k9.2) dk_12 rfl rfl (fun Z10 eZ10 => ?_)
    replace H := dz_le H Z10 eZ10
    clear eZ10
    refine wq_inc (k := 2) (d := 1) (x := s5.1) (ls' := [some (.ref c0), some (.ref a1), some (dz_I (s5.1 + 1))]) (pc' := 86) rfl rfl rfl rfl ?_
    refine wp_s (i := .goto (-27)) (n := 3) (pc' := 59) (st' := []) rfl rfl ?_
    replace H := dz_back H
    exact H
-- 55
def jf_S_pegsAsNumber (c0 : Nat) (a1 : Int) (Z : dz_Z) : Option (Int) := dz_lp (fun (s1 : Int × Int) => if dz_c s1.2 < 0 then (some (Sum.inr s1.1)) else (if 0 ≤ dz_c s1.2 ∧ dz_c s1.2 < 5 then some (Sum.inl ((s1.1 * 3) + (Z c0 0 (dz_c s1.2)), s1.2 + (-1))) else none)) 5000 (0, a1 - 1)
set_option maxRecDepth 20000 in
theorem jw_S_pegsAsNumber {X : Option (List Int32)} {D : Nat} {Q : Option Value → mm_H → Prop} (c0 : Nat) (hc0 : hz_isS c0) (a1 : Int) (Z : dz_Z) (H : dz_p (jf_S_pegsAsNumber c0 a1 Z) (fun q => Q (some (dz_I q)) (hz_0 Z))) : mm_Wp X D mm_r55 0 [some (.ref c0), some (dz_I a1), none, none] [] (hz_0 Z) Q := by
  unfold jf_S_pegsAsNumber at H
  refine wp_s (i := .iconst 0) (n := 1) (pc' := 1) (st' := [dz_I 0]) rfl rfl ?_
  refine wq_st (k := 2) (i := .istore_n 2) (n := 1) (ls' := [some (.ref c0), some (dz_I a1), some (dz_I 0), none]) (pc' := 2) rfl rfl rfl rfl rfl ?_
  refine wp_s (i := .iload_n 1) (n := 1) (pc' := 3) (st' := [dz_I a1]) rfl rfl ?_
  refine wp_s (i := .iconst 1) (n := 1) (pc' := 4) (st' := [dz_I 1, dz_I a1]) rfl rfl ?_
  refine wq_2 (i := .isub) (z := a1 - 1) (pc' := 5) rfl rfl (op_sub _ _) rfl ?_
  refine wq_st (k := 3) (i := .istore_n 3) (n := 1) (ls' := [some (.ref c0), some (dz_I a1), some (dz_I 0), some (dz_I (a1 - 1))]) (pc' := 6) rfl rfl rfl rfl rfl ?_
  refine dz_lpi (P := fun (s1 : Int × Int) => mm_Wp X D mm_r55 6 [some (.ref c0), some (dz_I a1), some (dz_I s1.1), some (dz_I s1.2)] [] (hz_0 Z) Q) (fun s1 H => ?_) 5000 (0, a1 - 1) H
  refine wp_s (i := .iload_n 3) (n := 1) (pc' := 7) (st' := [dz_I s1.2]) rfl rfl ?_
  refine wq_if (p := dz_c s1.2 < 0) (tt := 27) (pc' := 10) rfl rfl (cz_lt rfl) rfl (fun c2 => ?_) (fun c2 => ?_)
  · replace H := dz_it c2 H
    refine wp_s (i := .iload_n 2) (n := 1) (pc' := 28) (st' := [dz_I s1.1]) rfl rfl ?_
    refine wq_ri rfl rfl ?_
    replace H := dz_out H
    replace H := dz_sm H
    exact H
  · replace H := dz_if c2 H
    refine wp_s (i := .iload_n 2) (n := 1) (pc' := 11) (st' := [dz_I s1.1]) rfl rfl ?_
    refine wp_s (i := .iconst 3) (n := 1) (pc' := 12) (st' := [dz_I 3, dz_I s1.1]) rfl rfl ?_
    refine wq_2 (i := .imul) (z := s1.1 * 3) (pc' := 13) rfl rfl (op_mul _ _) rfl ?_
    refine wp_s (i := .aload_n 0) (n := 1) (pc' := 14) (st' := [.ref c0, dz_I (s1.1 * 3)]) rfl rfl ?_
    refine wq_gr (idx := 9) (a := c0 + 1) (pc' := 17) rfl rfl (ho_S hc0) rfl rfl ?_
    refine wp_s (i := .iload_n 3) (n := 1) (pc' := 18) (st' := [dz_I s1.2, .ref (c0 + 1), dz_I (s1.1 * 3)]) rfl rfl ?_
    obtain ⟨k3, H⟩ := dz_ck H
    refine wq_ia (j' := dz_c s1.2) (pc' := 19) rfl (ha_S_0 hc0) rfl k3.1 k3.2 rfl ?_
    refine wq_2 (i := .iadd) (z := (s1.1 * 3) + (Z c0 0 (dz_c s1.2))) (pc' := 20) rfl rfl (op_add _ _) rfl ?_
    refine wq_st (k := 2) (i := .istore_n 2) (n := 1) (ls' := [some (.ref c0), some (dz_I a1), some (dz_I ((s1.1 * 3) + (Z c0 0 (dz_c s1.2)))), some (dz_I s1.2)]) (pc' := 21) rfl rfl rfl rfl rfl ?_
    refine wq_inc (k := 3) (d := (-1)) (x := s1.2) (ls' := [some (.ref c0), some (dz_I a1), some (dz_I ((s1.1 * 3) + (Z c0 0 (dz_c s1.2)))), some (dz_I (s1.2 + (-1)))]) (pc' := 24) rfl rfl rfl rfl ?_
    refine wp_s (i := .goto (-18)) (n := 3) (pc' := 6) (st' := []) rfl rfl ?_
    replace H := dz_back H
    exact H
-- 56
def jf_S_setPegs (c0 : Nat) (a1 : Int) (a2 : Int) (Z : dz_Z) : Option (dz_Z) := dz_lp (fun (s1 : Int × Int × dz_Z) => if dz_c a1 ≤ dz_c s1.2.1 then (some (Sum.inr s1.2.2)) else (if 0 ≤ dz_c s1.2.1 ∧ dz_c s1.2.1 < 5 then dz_a (dz_u s1.2.2 c0 0 (dz_c s1.2.1) (Int.tmod (dz_c s1.1) 3)) fun Z4 => some (Sum.inl (Int.tdiv (dz_c s1.1) 3, s1.2.1 + 1, Z4)) else none)) 5000 (a2, 0, Z)
set_option maxRecDepth 20000 in
theorem jw_S_setPegs {X : Option (List Int32)} {D : Nat} {Q : Option Value → mm_H → Prop} (c0 : Nat) (hc0 : hz_isS c0) (a1 : Int) (a2 : Int) (Z : dz_Z) (H : dz_p (jf_S_setPegs c0 a1 a2 Z) (fun q => Q (none) (hz_0 q))) : mm_Wp X D mm_r56 0 [some (.ref c0), some (dz_I a1), some (dz_I a2), none, none] [] (hz_0 Z) Q := by
  unfold jf_S_setPegs at H
  refine wp_s (i := .iload_n 2) (n := 1) (pc' := 1) (st' := [dz_I a2]) rfl rfl ?_
  refine wq_st (k := 3) (i := .istore_n 3) (n := 1) (ls' := [some (.ref c0), some (dz_I a1), some (dz_I a2), some (dz_I a2), none]) (pc' := 2) rfl rfl rfl rfl rfl ?_
  refine wp_s (i := .iconst 0) (n := 1) (pc' := 3) (st' := [dz_I 0]) rfl rfl ?_
  refine wq_st (k := 4) (i := .istore 4) (n := 2) (ls' := [some (.ref c0), some (dz_I a1), some (dz_I a2), some (dz_I a2), some (dz_I 0)]) (pc' := 5) rfl rfl rfl rfl rfl ?_
  refine dz_lpi (P := fun (s1 : Int × Int × dz_Z) => mm_Wp X D mm_r56 5 [some (.ref c0), some (dz_I a1), some (dz_I a2), some (dz_I s1.1), some (dz_I s1.2.1)] [] (hz_0 s1.2.2) Q) (fun s1 H => ?_) 5000 (a2, 0, Z) H
  refine wp_s (i := .iload 4) (n := 2) (pc' := 7) (st' := [dz_I s1.2.1]) rfl rfl ?_
  refine wp_s (i := .iload_n 1) (n := 1) (pc' := 8) (st' := [dz_I a1, dz_I s1.2.1]) rfl rfl ?_
  refine wq_ic (p := dz_c a1 ≤ dz_c s1.2.1) (tt := 31) (pc' := 11) rfl rfl (cq_ge rfl rfl) rfl (fun c2 => ?_) (fun c2 => ?_)
  · replace H := dz_it c2 H
    refine wq_rv rfl rfl ?_
    replace H := dz_out H
    replace H := dz_sm H
    exact H
  · replace H := dz_if c2 H
    refine wp_s (i := .aload_n 0) (n := 1) (pc' := 12) (st' := [.ref c0]) rfl rfl ?_
    refine wq_gr (idx := 9) (a := c0 + 1) (pc' := 15) rfl rfl (ho_S hc0) rfl rfl ?_
    refine wp_s (i := .iload 4) (n := 2) (pc' := 17) (st' := [dz_I s1.2.1, .ref (c0 + 1)]) rfl rfl ?_
    refine wp_s (i := .iload_n 3) (n := 1) (pc' := 18) (st' := [dz_I s1.1, dz_I s1.2.1, .ref (c0 + 1)]) rfl rfl ?_
    refine wp_s (i := .iconst 3) (n := 1) (pc' := 19) (st' := [dz_I 3, dz_I s1.1, dz_I s1.2.1, .ref (c0 + 1)]) rfl rfl ?_
    refine wq_2 (i := .irem) (z := Int.tmod (dz_c s1.1) 3) (pc' := 20) rfl rfl (op_rem rfl dk_3 (by decide)) rfl ?_
    obtain ⟨k3, H⟩ := dz_ck H
    refine wq_is (j' := dz_c s1.2.1) (x := Int.tmod (dz_c s1.1) 3) (pc' := 21) rfl (ha_S_0 hc0) rfl k3.1 k3.2 rfl (fun Z4 eZ4 => ?_)
    replace H := dz_le H Z4 eZ4
    clear eZ4
    refine wp_s (i := .iload_n 3) (n := 1) (pc' := 22) (st' := [dz_I s1.1]) rfl rfl ?_
    refine wp_s (i := .iconst 3) (n := 1) (pc' := 23) (st' := [dz_I 3, dz_I s1.1]) rfl rfl ?_
    refine wq_2 (i := .idiv) (z := Int.tdiv (dz_c s1.1) 3) (pc' := 24) rfl rfl (op_div rfl dk_3 (by decide)) rfl ?_
    refine wq_st (k := 3) (i := .istore_n 3) (n := 1) (ls' := [some (.ref c0), some (dz_I a1), some (dz_I a2), some (dz_I (Int.tdiv (dz_c s1.1) 3)), some (dz_I s1.2.1)]) (pc' := 25) rfl rfl rfl rfl rfl ?_
    refine wq_inc (k := 4) (d := 1) (x := s1.2.1) (ls' := [some (.ref c0), some (dz_I a1), some (dz_I a2), some (dz_I (Int.tdiv (dz_c s1.1) 3)), some (dz_I (s1.2.1 + 1))]) (pc' := 28) rfl rfl rfl rfl ?_
    refine wp_s (i := .goto (-23)) (n := 3) (pc' := 5) (st' := []) rfl rfl ?_
    replace H := dz_back H
    exact H
-- 58
def jf_H_isNothing (c0 : Nat) (Z : dz_Z) : Option (Bool) := if dz_c (Z c0 2 0) ≠ (-1) then (some false) else (some true)
set_option maxRecDepth 20000 in
theorem jw_H_isNothing {X : Option (List Int32)} {D : Nat} {Q : Option Value → mm_H → Prop} (c0 : Nat) (hc0 : hz_isH c0) (Z : dz_Z) (H : dz_p (jf_H_isNothing c0 Z) (fun q => Q (some (dz_B q)) (hz_0 Z))) : mm_Wp X D mm_r58 0 [some (.ref c0)] [] (hz_0 Z) Q := by
  unfold jf_H_isNothing at H
  refine wp_s (i := .aload_n 0) (n := 1) (pc' := 1) (st' := [.ref c0]) rfl rfl ?_
  refine wq_gi (idx := 15) (pc' := 4) rfl rfl (ho_H hc0) rfl rfl ?_
  refine wp_s (i := .iconst (-1)) (n := 1) (pc' := 5) (st' := [dz_I (-1), dz_I (Z c0 2 0)]) rfl rfl ?_
  refine wq_ic (p := dz_c (Z c0 2 0) ≠ (-1)) (tt := 12) (pc' := 8) rfl rfl (cq_ne rfl dk_m1) rfl (fun c1 => ?_) (fun c1 => ?_)
  · replace H := dz_it c1 H
    refine wp_s (i := .iconst 0) (n := 1) (pc' := 13) (st' := [dz_I 0]) rfl rfl ?_
    refine wq_rf rfl rfl ?_
    replace H := dz_sm H
    exact H
  · replace H := dz_if c1 H
    refine wp_s (i := .iconst 1) (n := 1) (pc' := 9) (st' := [dz_I 1]) rfl rfl ?_
    refine wp_s (i := .goto 4) (n := 3) (pc' := 13) (st' := [dz_I 1]) rfl rfl ?_
    refine wq_rt rfl rfl ?_
    replace H := dz_sm H
    exact H
-- 59
def jf_H_renew (c0 : Nat) (a1 : Int) (a2 : Int) (Z : dz_Z) : Option (dz_Z) := dz_a (dz_f Z c0 0 (fun _ => 0)) fun Z1 => dz_a (dz_u Z1 c0 1 0 a1) fun Z2 => dz_a (dz_u Z2 c0 2 0 a2) fun Z3 => some Z3
set_option maxRecDepth 20000 in
theorem jw_H_renew {X : Option (List Int32)} {D : Nat} {Q : Option Value → mm_H → Prop} (c0 : Nat) (hc0 : hz_isH c0) (a1 : Int) (a2 : Int) (Z : dz_Z) (H : dz_p (jf_H_renew c0 a1 a2 Z) (fun q => Q (none) (hz_0 q))) : mm_Wp X (D + 1) mm_r59 0 [some (.ref c0), some (dz_I a1), some (dz_I a2)] [] (hz_0 Z) Q := by
  unfold jf_H_renew at H
  refine wp_s (i := .aload_n 0) (n := 1) (pc' := 1) (st' := [.ref c0]) rfl rfl ?_
  refine wq_gr (idx := 9) (a := c0 + 1) (pc' := 4) rfl rfl (ho_H hc0) rfl rfl ?_
  refine wp_s (i := .iconst 0) (n := 1) (pc' := 5) (st' := [dz_I 0, .ref (c0 + 1)]) rfl rfl ?_
  refine wq_cs (Dq := D) (r' := mm_r200) (as0 := [.ref (c0 + 1), dz_I 0]) (rest := []) (ls' := [some (.ref (c0 + 1)), some (dz_I 0), none, none]) (pc' := 8) rfl rfl (by decide) rfl rfl rfl rfl rfl ?_
  refine jw_fillI (ha_H_0 hc0) (by decide) (fun Z1 eZ1 => ?_)
  replace H := dz_le H Z1 eZ1
  clear eZ1
  show mm_Wp X (D + 1) mm_r59 8 [some (.ref c0), some (dz_I a1), some (dz_I a2)] [] (hz_0 Z1) Q
  refine wp_s (i := .aload_n 0) (n := 1) (pc' := 9) (st' := [.ref c0]) rfl rfl ?_
  refine wp_s (i := .iload_n 1) (n := 1) (pc' := 10) (st' := [dz_I a1, .ref c0]) rfl rfl ?_
  refine wq_pi (idx := 25) (x := a1) (pc' := 13) rfl rfl rfl (ho_H hc0) rfl rfl rfl rfl (fun Z2 eZ2 => ?_)
  replace H := dz_le H Z2 eZ2
  clear eZ2
  refine wp_s (i := .aload_n 0) (n := 1) (pc' := 14) (st' := [.ref c0]) rfl rfl ?_
  refine wp_s (i := .iload_n 2) (n := 1) (pc' := 15) (st' := [dz_I a2, .ref c0]) rfl rfl ?_
  refine wq_pi (idx := 15) (x := a2) (pc' := 18) rfl rfl rfl (ho_H hc0) rfl rfl rfl rfl (fun Z3 eZ3 => ?_)
  replace H := dz_le H Z3 eZ3
  clear eZ3
  refine wq_rv rfl rfl ?_
  replace H := dz_sm H
  exact H
-- 60
def jf_H_faultAt (c0 : Nat) (a1 : Int) (a2 : Int) (Z : dz_Z) : Option (Int) := Option.bind (jf_H_isNothing c0 Z) fun q1 => if q1 = false then (if dz_c a1 = dz_c (Z c0 1 0) then (if dz_c a2 < 0 then (some 2) else (if dz_c a2 < dz_c (Z c0 2 0) then (some 0) else (some 2))) else (some 3)) else (some 1)
set_option maxRecDepth 20000 in
theorem jw_H_faultAt {X : Option (List Int32)} {D : Nat} {Q : Option Value → mm_H → Prop} (c0 : Nat) (hc0 : hz_isH c0) (a1 : Int) (a2 : Int) (Z : dz_Z) (H : dz_p (jf_H_faultAt c0 a1 a2 Z) (fun q => Q (some (dz_I q)) (hz_0 Z))) : mm_Wp X (D + 1) mm_r60 0 [some (.ref c0), some (dz_I a1), some (dz_I a2)] [] (hz_0 Z) Q := by
  unfold jf_H_faultAt at H
  refine wp_s (i := .aload_n 0) (n := 1) (pc' := 1) (st' := [.ref c0]) rfl rfl ?_
  refine wq_cv (Dq := D) (r' := mm_r58) (as0 := []) (rest := []) (ls' := [some (.ref c0)]) (pc' := 4) rfl rfl rfl rfl (ho_H hc0) rfl rfl rfl ?_
  refine jw_H_isNothing (X := X) (D := D + 0) c0 hc0 Z (dz_pm (dz_bi H) (fun q1 H => ?_))
  show mm_Wp X (D + 1) mm_r60 4 [some (.ref c0), some (dz_I a1), some (dz_I a2)] [dz_B q1] (hz_0 Z) Q
  refine wq_if (p := q1 = false) (tt := 9) (pc' := 7) rfl rfl (cb_eq) rfl (fun c2 => ?_) (fun c2 => ?_)
  · replace H := dz_it c2 H
    refine wp_s (i := .iload_n 1) (n := 1) (pc' := 10) (st' := [dz_I a1]) rfl rfl ?_
    refine wp_s (i := .aload_n 0) (n := 1) (pc' := 11) (st' := [.ref c0, dz_I a1]) rfl rfl ?_
    refine wq_gi (idx := 25) (pc' := 14) rfl rfl (ho_H hc0) rfl rfl ?_
    refine wq_ic (p := dz_c a1 = dz_c (Z c0 1 0)) (tt := 19) (pc' := 17) rfl rfl (cq_eq rfl rfl) rfl (fun c3 => ?_) (fun c3 => ?_)
    · replace H := dz_it c3 H
      refine wp_s (i := .iload_n 2) (n := 1) (pc' := 20) (st' := [dz_I a2]) rfl rfl ?_
      refine wq_if (p := dz_c a2 < 0) (tt := 31) (pc' := 23) rfl rfl (cz_lt rfl) rfl (fun c4 => ?_) (fun c4 => ?_)
      · replace H := dz_it c4 H
        refine wp_s (i := .iconst 2) (n := 1) (pc' := 32) (st' := [dz_I 2]) rfl rfl ?_
        refine wp_s (i := .goto 4) (n := 3) (pc' := 36) (st' := [dz_I 2]) rfl rfl ?_
        refine wq_ri rfl rfl ?_
        replace H := dz_sm H
        exact H
      · replace H := dz_if c4 H
        refine wp_s (i := .iload_n 2) (n := 1) (pc' := 24) (st' := [dz_I a2]) rfl rfl ?_
        refine wp_s (i := .aload_n 0) (n := 1) (pc' := 25) (st' := [.ref c0, dz_I a2]) rfl rfl ?_
        refine wq_gi (idx := 15) (pc' := 28) rfl rfl (ho_H hc0) rfl rfl ?_
        refine wq_ic (p := dz_c a2 < dz_c (Z c0 2 0)) (tt := 35) (pc' := 31) rfl rfl (cq_lt rfl rfl) rfl (fun c5 => ?_) (fun c5 => ?_)
        · replace H := dz_it c5 H
          refine wp_s (i := .iconst 0) (n := 1) (pc' := 36) (st' := [dz_I 0]) rfl rfl ?_
          refine wq_ri rfl rfl ?_
          replace H := dz_sm H
          exact H
        · replace H := dz_if c5 H
          refine wp_s (i := .iconst 2) (n := 1) (pc' := 32) (st' := [dz_I 2]) rfl rfl ?_
          refine wp_s (i := .goto 4) (n := 3) (pc' := 36) (st' := [dz_I 2]) rfl rfl ?_
          refine wq_ri rfl rfl ?_
          replace H := dz_sm H
          exact H
    · replace H := dz_if c3 H
      refine wp_s (i := .iconst 3) (n := 1) (pc' := 18) (st' := [dz_I 3]) rfl rfl ?_
      refine wq_ri rfl rfl ?_
      replace H := dz_sm H
      exact H
  · replace H := dz_if c2 H
    refine wp_s (i := .iconst 1) (n := 1) (pc' := 8) (st' := [dz_I 1]) rfl rfl ?_
    refine wq_ri rfl rfl ?_
    replace H := dz_sm H
    exact H
-- 61
def jf_H_put (c0 : Nat) (a1 : Int) (a2 : Int) (Z : dz_Z) : Option (dz_Z) := if dz_c (Z c0 1 0) ≠ 0 then (if dz_c (Z c0 1 0) ≠ 1 then (if 0 ≤ dz_c a1 ∧ dz_c a1 < 40 then dz_a (dz_u Z c0 0 (dz_c a1) a2) fun Z4 => some Z4 else none) else (if 0 ≤ dz_c a1 ∧ dz_c a1 < 40 then dz_a (dz_u Z c0 0 (dz_c a1) (dz_s a2)) fun Z6 => some Z6 else none)) else (if 0 ≤ dz_c a1 ∧ dz_c a1 < 40 then dz_a (dz_u Z c0 0 (dz_c a1) (dz_b a2)) fun Z8 => some Z8 else none)
set_option maxRecDepth 20000 in
theorem jw_H_put {X : Option (List Int32)} {D : Nat} {Q : Option Value → mm_H → Prop} (c0 : Nat) (hc0 : hz_isH c0) (a1 : Int) (a2 : Int) (Z : dz_Z) (H : dz_p (jf_H_put c0 a1 a2 Z) (fun q => Q (none) (hz_0 q))) : mm_Wp X D mm_r61 0 [some (.ref c0), some (dz_I a1), some (dz_I a2)] [] (hz_0 Z) Q := by
  unfold jf_H_put at H
  refine wp_s (i := .aload_n 0) (n := 1) (pc' := 1) (st' := [.ref c0]) rfl rfl ?_
  refine wq_gi (idx := 25) (pc' := 4) rfl rfl (ho_H hc0) rfl rfl ?_
  refine wq_if (p := dz_c (Z c0 1 0) ≠ 0) (tt := 18) (pc' := 7) rfl rfl (cz_ne rfl) rfl (fun c1 => ?_) (fun c1 => ?_)
  · replace H := dz_it c1 H
    refine wp_s (i := .aload_n 0) (n := 1) (pc' := 19) (st' := [.ref c0]) rfl rfl ?_
    refine wq_gi (idx := 25) (pc' := 22) rfl rfl (ho_H hc0) rfl rfl ?_
    refine wp_s (i := .iconst 1) (n := 1) (pc' := 23) (st' := [dz_I 1, dz_I (Z c0 1 0)]) rfl rfl ?_
    refine wq_ic (p := dz_c (Z c0 1 0) ≠ 1) (tt := 37) (pc' := 26) rfl rfl (cq_ne rfl dk_1) rfl (fun c2 => ?_) (fun c2 => ?_)
    · replace H := dz_it c2 H
      refine wp_s (i := .aload_n 0) (n := 1) (pc' := 38) (st' := [.ref c0]) rfl rfl ?_
      refine wq_gr (idx := 9) (a := c0 + 1) (pc' := 41) rfl rfl (ho_H hc0) rfl rfl ?_
      refine wp_s (i := .iload_n 1) (n := 1) (pc' := 42) (st' := [dz_I a1, .ref (c0 + 1)]) rfl rfl ?_
      refine wp_s (i := .iload_n 2) (n := 1) (pc' := 43) (st' := [dz_I a2, dz_I a1, .ref (c0 + 1)]) rfl rfl ?_
      obtain ⟨k3, H⟩ := dz_ck H
      refine wq_is (j' := dz_c a1) (x := a2) (pc' := 44) rfl (ha_H_0 hc0) rfl k3.1 k3.2 rfl (fun Z4 eZ4 => ?_)
      replace H := dz_le H Z4 eZ4
      clear eZ4
      refine wq_rv rfl rfl ?_
      replace H := dz_sm H
      exact H
    · replace H := dz_if c2 H
      refine wp_s (i := .aload_n 0) (n := 1) (pc' := 27) (st' := [.ref c0]) rfl rfl ?_
      refine wq_gr (idx := 9) (a := c0 + 1) (pc' := 30) rfl rfl (ho_H hc0) rfl rfl ?_
      refine wp_s (i := .iload_n 1) (n := 1) (pc' := 31) (st' := [dz_I a1, .ref (c0 + 1)]) rfl rfl ?_
      refine wp_s (i := .iload_n 2) (n := 1) (pc' := 32) (st' := [dz_I a2, dz_I a1, .ref (c0 + 1)]) rfl rfl ?_
      refine wq_3 (i := .i2s) (v' := dz_I (dz_s a2)) (pc' := 33) rfl rfl (oq_i2s _) rfl ?_
      obtain ⟨k5, H⟩ := dz_ck H
      refine wq_is (j' := dz_c a1) (x := dz_s a2) (pc' := 34) rfl (ha_H_0 hc0) rfl k5.1 k5.2 rfl (fun Z6 eZ6 => ?_)
      replace H := dz_le H Z6 eZ6
      clear eZ6
      refine wp_s (i := .goto 10) (n := 3) (pc' := 44) (st' := []) rfl rfl ?_
      refine wq_rv rfl rfl ?_
      replace H := dz_sm H
      exact H
  · replace H := dz_if c1 H
    refine wp_s (i := .aload_n 0) (n := 1) (pc' := 8) (st' := [.ref c0]) rfl rfl ?_
    refine wq_gr (idx := 9) (a := c0 + 1) (pc' := 11) rfl rfl (ho_H hc0) rfl rfl ?_
    refine wp_s (i := .iload_n 1) (n := 1) (pc' := 12) (st' := [dz_I a1, .ref (c0 + 1)]) rfl rfl ?_
    refine wp_s (i := .iload_n 2) (n := 1) (pc' := 13) (st' := [dz_I a2, dz_I a1, .ref (c0 + 1)]) rfl rfl ?_
    refine wq_3 (i := .i2b) (v' := dz_I (dz_b a2)) (pc' := 14) rfl rfl (oq_i2b _) rfl ?_
    obtain ⟨k7, H⟩ := dz_ck H
    refine wq_is (j' := dz_c a1) (x := dz_b a2) (pc' := 15) rfl (ha_H_0 hc0) rfl k7.1 k7.2 rfl (fun Z8 eZ8 => ?_)
    replace H := dz_le H Z8 eZ8
    clear eZ8
    refine wp_s (i := .goto 29) (n := 3) (pc' := 44) (st' := []) rfl rfl ?_
    refine wq_rv rfl rfl ?_
    replace H := dz_sm H
    exact H
-- 64
def jf_O_feed (a1 : Int) (Z : dz_Z) : Option (Int × dz_Z) := if dz_c ((Z 2 1 0) + 8) ≤ 320 then (dz_lp (fun (s2 : Int × dz_Z) => if dz_c s2.1 < 0 then (some (Sum.inr (s2.2 2 1 0, s2.2))) else (if 0 ≤ dz_c (s2.2 2 1 0) ∧ dz_c (s2.2 2 1 0) < 320 then dz_a (dz_u s2.2 2 0 (dz_c (s2.2 2 1 0)) (dz_b (dz_b (dz_li (dz_lur a1 s2.1))))) fun Z5 => dz_a (dz_u Z5 2 1 0 ((Z5 2 1 0) + 1)) fun Z6 => some (Sum.inl (s2.1 + (-8), Z6)) else none)) 5000 (56, Z)) else (some ((-3), Z))
set_option maxRecDepth 20000 in
theorem jw_O_feed {X : Option (List Int32)} {D : Nat} {Q : Option Value → mm_H → Prop} (a1 : Int) (Z : dz_Z) (H : dz_p (jf_O_feed a1 Z) (fun q => Q (some (dz_I q.1)) (hz_0 q.2))) : mm_Wp X D mm_r64 0 [some (.ref 0), some (dz_J a1), none, none] [] (hz_0 Z) Q := by
  unfold jf_O_feed at H
  refine wp_s (i := .aload_n 0) (n := 1) (pc' := 1) (st' := [.ref 0]) rfl rfl ?_
  refine wq_gr (idx := 20) (a := 2) (pc' := 4) rfl rfl ho_O rfl rfl ?_
  refine wq_gi (idx := 70) (pc' := 7) rfl rfl ho_T rfl rfl ?_
  refine wp_s (i := .bipush 8) (n := 2) (pc' := 9) (st' := [dz_I 8, dz_I (Z 2 1 0)]) rfl rfl ?_
  refine wq_2 (i := .iadd) (z := (Z 2 1 0) + 8) (pc' := 10) rfl rfl (op_add _ _) rfl ?_
  refine wp_s (i := .sipush 320) (n := 3) (pc' := 13) (st' := [dz_I 320, dz_I ((Z 2 1 0) + 8)]) rfl rfl ?_
  refine wq_ic (p := dz_c ((Z 2 1 0) + 8) ≤ 320) (tt := 19) (pc' := 16) rfl rfl (cq_le rfl dk_320) rfl (fun c1 => ?_) (fun c1 => ?_)
  · replace H := dz_it c1 H
    refine wp_s (i := .bipush 56) (n := 2) (pc' := 21) (st' := [dz_I 56]) rfl rfl ?_
    refine wq_st (k := 3) (i := .istore_n 3) (n := 1) (ls' := [some (.ref 0), some (dz_J a1), none, some (dz_I 56)]) (pc' := 22) rfl rfl rfl rfl rfl ?_
    refine dz_lpi (P := fun (s2 : Int × dz_Z) => mm_Wp X D mm_r64 22 [some (.ref 0), some (dz_J a1), none, some (dz_I s2.1)] [] (hz_0 s2.2) Q) (fun s2 H => ?_) 5000 (56, Z) H
    refine wp_s (i := .iload_n 3) (n := 1) (pc' := 23) (st' := [dz_I s2.1]) rfl rfl ?_
    refine wq_if (p := dz_c s2.1 < 0) (tt := 65) (pc' := 26) rfl rfl (cz_lt rfl) rfl (fun c3 => ?_) (fun c3 => ?_)
    · replace H := dz_it c3 H
      refine wp_s (i := .aload_n 0) (n := 1) (pc' := 66) (st' := [.ref 0]) rfl rfl ?_
      refine wq_gr (idx := 20) (a := 2) (pc' := 69) rfl rfl ho_O rfl rfl ?_
      refine wq_gi (idx := 70) (pc' := 72) rfl rfl ho_T rfl rfl ?_
      refine wq_ri rfl rfl ?_
      replace H := dz_out H
      replace H := dz_sm H
      exact H
    · replace H := dz_if c3 H
      refine wp_s (i := .aload_n 0) (n := 1) (pc' := 27) (st' := [.ref 0]) rfl rfl ?_
      refine wq_gr (idx := 20) (a := 2) (pc' := 30) rfl rfl ho_O rfl rfl ?_
      refine wq_gr (idx := 76) (a := 3) (pc' := 33) rfl rfl ho_T rfl rfl ?_
      refine wp_s (i := .aload_n 0) (n := 1) (pc' := 34) (st' := [.ref 0, .ref 3]) rfl rfl ?_
      refine wq_gr (idx := 20) (a := 2) (pc' := 37) rfl rfl ho_O rfl rfl ?_
      refine wq_gi (idx := 70) (pc' := 40) rfl rfl ho_T rfl rfl ?_
      refine wp_s (i := .lload_n 1) (n := 1) (pc' := 41) (st' := [dz_J a1, dz_I (s2.2 2 1 0), .ref 3]) rfl rfl ?_
      refine wp_s (i := .iload_n 3) (n := 1) (pc' := 42) (st' := [dz_I s2.1, dz_J a1, dz_I (s2.2 2 1 0), .ref 3]) rfl rfl ?_
      refine wq_4 (i := .lushr) (v' := dz_J (dz_lur a1 s2.1)) (pc' := 43) rfl rfl (ol_ushr _ _) rfl ?_
      refine wq_3 (i := .l2i) (v' := dz_I (dz_li (dz_lur a1 s2.1))) (pc' := 44) rfl rfl (oq_l2i _) rfl ?_
      refine wq_3 (i := .i2b) (v' := dz_I (dz_b (dz_li (dz_lur a1 s2.1)))) (pc' := 45) rfl rfl (oq_i2b _) rfl ?_
      obtain ⟨k4, H⟩ := dz_ck H
      refine wq_bs (j' := dz_c (s2.2 2 1 0)) (x := dz_b (dz_li (dz_lur a1 s2.1))) (pc' := 46) rfl ha_T_0 rfl k4.1 k4.2 rfl (fun Z5 eZ5 => ?_)
      replace H := dz_le H Z5 eZ5
      clear eZ5
      refine wp_s (i := .aload_n 0) (n := 1) (pc' := 47) (st' := [.ref 0]) rfl rfl ?_
      refine wq_gr (idx := 20) (a := 2) (pc' := 50) rfl rfl ho_O rfl rfl ?_
      refine wp_s (i := .dup) (n := 1) (pc' := 51) (st' := [.ref 2, .ref 2]) rfl rfl ?_
      refine wq_gi (idx := 70) (pc' := 54) rfl rfl ho_T rfl rfl ?_
      refine wp_s (i := .iconst 1) (n := 1) (pc' := 55) (st' := [dz_I 1, dz_I (Z5 2 1 0), .ref 2]) rfl rfl ?_
      refine wq_2 (i := .iadd) (z := (Z5 2 1 0) + 1) (pc' := 56) rfl rfl (op_add _ _) rfl ?_
      refine wq_pi (idx := 70) (x := (Z5 2 1 0) + 1) (pc' := 59) rfl rfl rfl ho_T rfl rfl rfl rfl (fun Z6 eZ6 => ?_)
      replace H := dz_le H Z6 eZ6
      clear eZ6
      refine wq_inc (k := 3) (d := (-8)) (x := s2.1) (ls' := [some (.ref 0), some (dz_J a1), none, some (dz_I (s2.1 + (-8)))]) (pc' := 62) rfl rfl rfl rfl ?_
      refine wp_s (i := .goto (-40)) (n := 3) (pc' := 22) (st' := []) rfl rfl ?_
      replace H := dz_back H
      exact H
  · replace H := dz_if c1 H
    refine wp_s (i := .bipush (-3)) (n := 2) (pc' := 18) (st' := [dz_I (-3)]) rfl rfl ?_
    refine wq_ri rfl rfl ?_
    replace H := dz_sm H
    exact H
-- 65
def jf_O_end (a1 : Int) (Z : dz_Z) : Option (Int × dz_Z) := if dz_c a1 < 0 then (some ((-1), Z)) else (if dz_c a1 ≤ dz_c (Z 2 1 0) then (dz_a (dz_u Z 2 1 0 a1) fun Z3 => some (Z 2 1 0, Z3)) else (some ((-1), Z)))
set_option maxRecDepth 20000 in
theorem jw_O_end {X : Option (List Int32)} {D : Nat} {Q : Option Value → mm_H → Prop} (a1 : Int) (Z : dz_Z) (H : dz_p (jf_O_end a1 Z) (fun q => Q (some (dz_I q.1)) (hz_0 q.2))) : mm_Wp X D mm_r65 0 [some (.ref 0), some (dz_I a1), none] [] (hz_0 Z) Q := by
  unfold jf_O_end at H
  refine wp_s (i := .iload_n 1) (n := 1) (pc' := 1) (st' := [dz_I a1]) rfl rfl ?_
  refine wq_if (p := dz_c a1 < 0) (tt := 15) (pc' := 4) rfl rfl (cz_lt rfl) rfl (fun c1 => ?_) (fun c1 => ?_)
  · replace H := dz_it c1 H
    refine wp_s (i := .iconst (-1)) (n := 1) (pc' := 16) (st' := [dz_I (-1)]) rfl rfl ?_
    refine wq_ri rfl rfl ?_
    replace H := dz_sm H
    exact H
  · replace H := dz_if c1 H
    refine wp_s (i := .iload_n 1) (n := 1) (pc' := 5) (st' := [dz_I a1]) rfl rfl ?_
    refine wp_s (i := .aload_n 0) (n := 1) (pc' := 6) (st' := [.ref 0, dz_I a1]) rfl rfl ?_
    refine wq_gr (idx := 20) (a := 2) (pc' := 9) rfl rfl ho_O rfl rfl ?_
    refine wq_gi (idx := 70) (pc' := 12) rfl rfl ho_T rfl rfl ?_
    refine wq_ic (p := dz_c a1 ≤ dz_c (Z 2 1 0)) (tt := 17) (pc' := 15) rfl rfl (cq_le rfl rfl) rfl (fun c2 => ?_) (fun c2 => ?_)
    · replace H := dz_it c2 H
      refine wp_s (i := .aload_n 0) (n := 1) (pc' := 18) (st' := [.ref 0]) rfl rfl ?_
      refine wq_gr (idx := 20) (a := 2) (pc' := 21) rfl rfl ho_O rfl rfl ?_
      refine wq_gi (idx := 70) (pc' := 24) rfl rfl ho_T rfl rfl ?_
      refine wq_st (k := 2) (i := .istore_n 2) (n := 1) (ls' := [some (.ref 0), some (dz_I a1), some (dz_I (Z 2 1 0))]) (pc' := 25) rfl rfl rfl rfl rfl ?_
      refine wp_s (i := .aload_n 0) (n := 1) (pc' := 26) (st' := [.ref 0]) rfl rfl ?_
      refine wq_gr (idx := 20) (a := 2) (pc' := 29) rfl rfl ho_O rfl rfl ?_
      refine wp_s (i := .iload_n 1) (n := 1) (pc' := 30) (st' := [dz_I a1, .ref 2]) rfl rfl ?_
      refine wq_pi (idx := 70) (x := a1) (pc' := 33) rfl rfl rfl ho_T rfl rfl rfl rfl (fun Z3 eZ3 => ?_)
      replace H := dz_le H Z3 eZ3
      clear eZ3
      refine wp_s (i := .iload_n 2) (n := 1) (pc' := 34) (st' := [dz_I (Z 2 1 0)]) rfl rfl ?_
      refine wq_ri rfl rfl ?_
      replace H := dz_sm H
      exact H
    · replace H := dz_if c2 H
      refine wp_s (i := .iconst (-1)) (n := 1) (pc' := 16) (st' := [dz_I (-1)]) rfl rfl ?_
      refine wq_ri rfl rfl ?_
      replace H := dz_sm H
      exact H
-- 67
def jf_O_takeWhatWasRead (Z : dz_Z) : Option (dz_Z) := if hz_isP (Z 0 2 0).toNat then if hz_isS (Z 0 3 0).toNat then if hz_isP (Z 1 1 0).toNat then dz_a (dz_u Z 0 2 0 ((Z 1 1 0).toNat : Nat)) fun Z4 => if hz_isS (Z4 1 2 0).toNat then dz_a (dz_u Z4 0 3 0 ((Z4 1 2 0).toNat : Nat)) fun Z6 => dz_a (dz_u Z6 1 1 0 ((Z 0 2 0).toNat : Nat)) fun Z7 => dz_a (dz_u Z7 1 2 0 ((Z 0 3 0).toNat : Nat)) fun Z8 => Option.bind (jf_F_dryUp 46 Z8) fun q9 => dz_lp (fun (s10 : Int × dz_Z) => if 2 ≤ dz_c s10.1 then (some (Sum.inr s10.2)) else (if 0 ≤ dz_c s10.1 ∧ dz_c s10.1 < 2 then dz_a (dz_u s10.2 (68 + 19 * Int.toNat (dz_c s10.1)) 2 0 0) fun Z13 => some (Sum.inl (s10.1 + 1, Z13)) else none)) 5000 (0, q9) else none else none else none else none
set_option maxRecDepth 20000 in
theorem jw_O_takeWhatWasRead {X : Option (List Int32)} {D : Nat} {Q : Option Value → mm_H → Prop} (Z : dz_Z) (H : dz_p (jf_O_takeWhatWasRead Z) (fun q => Q (none) (hz_0 q))) : mm_Wp X (D + 2) mm_r67 0 [some (.ref 0), none, none, none] [] (hz_0 Z) Q := by
  unfold jf_O_takeWhatWasRead at H
  refine wp_s (i := .aload_n 0) (n := 1) (pc' := 1) (st' := [.ref 0]) rfl rfl ?_
  obtain ⟨k1, H⟩ := dz_ck H
  refine wq_gd (idx := 24) (pc' := 4) rfl rfl ho_O rfl rfl ?_
  refine wp_s (i := .astore_n 1) (n := 1) (pc' := 5) (ls' := [some (.ref 0), some (.ref ((Z 0 2 0).toNat)), none, none]) (st' := []) rfl rfl ?_
  refine wp_s (i := .aload_n 0) (n := 1) (pc' := 6) (st' := [.ref 0]) rfl rfl ?_
  obtain ⟨k2, H⟩ := dz_ck H
  refine wq_gd (idx := 31) (pc' := 9) rfl rfl ho_O rfl rfl ?_
  refine wp_s (i := .astore_n 2) (n := 1) (pc' := 10) (ls' := [some (.ref 0), some (.ref ((Z 0 2 0).toNat)), some (.ref ((Z 0 3 0).toNat)), none]) (st' := []) rfl rfl ?_
  refine wp_s (i := .aload_n 0) (n := 1) (pc' := 11) (st' := [.ref 0]) rfl rfl ?_
  refine wp_s (i := .aload_n 0) (n := 1) (pc' := 12) (st' := [.ref 0, .ref 0]) rfl rfl ?_
  refine wq_gr (idx := 10) (a := 1) (pc' := 15) rfl rfl ho_O rfl rfl ?_
  obtain ⟨k3, H⟩ := dz_ck H
  refine wq_gd (idx := 99) (pc' := 18) rfl rfl ho_R rfl rfl ?_
  refine wq_pr (idx := 24) (a := (Z 1 1 0).toNat) (pc' := 21) rfl rfl rfl ho_O rfl rfl rfl rfl (fun Z4 eZ4 => ?_)
  replace H := dz_le H Z4 eZ4
  clear eZ4
  refine wp_s (i := .aload_n 0) (n := 1) (pc' := 22) (st' := [.ref 0]) rfl rfl ?_
  refine wp_s (i := .aload_n 0) (n := 1) (pc' := 23) (st' := [.ref 0, .ref 0]) rfl rfl ?_
  refine wq_gr (idx := 10) (a := 1) (pc' := 26) rfl rfl ho_O rfl rfl ?_
  obtain ⟨k5, H⟩ := dz_ck H
  refine wq_gd (idx := 100) (pc' := 29) rfl rfl ho_R rfl rfl ?_
  refine wq_pr (idx := 31) (a := (Z4 1 2 0).toNat) (pc' := 32) rfl rfl rfl ho_O rfl rfl rfl rfl (fun Z6 eZ6 => ?_)
  replace H := dz_le H Z6 eZ6
  clear eZ6
  refine wp_s (i := .aload_n 0) (n := 1) (pc' := 33) (st' := [.ref 0]) rfl rfl ?_
  refine wq_gr (idx := 10) (a := 1) (pc' := 36) rfl rfl ho_O rfl rfl ?_
  refine wp_s (i := .aload_n 1) (n := 1) (pc' := 37) (st' := [.ref ((Z 0 2 0).toNat), .ref 1]) rfl rfl ?_
  refine wq_pr (idx := 99) (a := (Z 0 2 0).toNat) (pc' := 40) rfl rfl rfl ho_R rfl rfl rfl rfl (fun Z7 eZ7 => ?_)
  replace H := dz_le H Z7 eZ7
  clear eZ7
  refine wp_s (i := .aload_n 0) (n := 1) (pc' := 41) (st' := [.ref 0]) rfl rfl ?_
  refine wq_gr (idx := 10) (a := 1) (pc' := 44) rfl rfl ho_O rfl rfl ?_
  refine wp_s (i := .aload_n 2) (n := 1) (pc' := 45) (st' := [.ref ((Z 0 3 0).toNat), .ref 1]) rfl rfl ?_
  refine wq_pr (idx := 100) (a := (Z 0 3 0).toNat) (pc' := 48) rfl rfl rfl ho_R rfl rfl rfl rfl (fun Z8 eZ8 => ?_)
  replace H := dz_le H Z8 eZ8
  clear eZ8
  refine wp_s (i := .aload_n 0) (n := 1) (pc' := 49) (st' := [.ref 0]) rfl rfl ?_
  refine wq_gr (idx := 38) (a := 46) (pc' := 52) rfl rfl ho_O rfl rfl ?_
  refine wq_cv (Dq := (D + 1)) (r' := mm_r10) (as0 := []) (rest := []) (ls' := [some (.ref 46)]) (pc' := 55) rfl rfl rfl rfl (ho_F (Or.inl rfl)) rfl rfl rfl ?_
  refine jw_F_dryUp (X := X) (D := D + 0) 46 (Or.inl rfl) Z8 (dz_pm (dz_bi H) (fun q9 H => ?_))
  show mm_Wp X (D + 2) mm_r67 55 [some (.ref 0), some (.ref ((Z 0 2 0).toNat)), some (.ref ((Z 0 3 0).toNat)), none] [] (hz_0 q9) Q
  refine wp_s (i := .iconst 0) (n := 1) (pc' := 56) (st' := [dz_I 0]) rfl rfl ?_
  refine wq_st (k := 3) (i := .istore_n 3) (n := 1) (ls' := [some (.ref 0), some (.ref ((Z 0 2 0).toNat)), some (.ref ((Z 0 3 0).toNat)), some (dz_I 0)]) (pc' := 57) rfl rfl rfl rfl rfl ?_
  refine dz_lpi (P := fun (s10 : Int × dz_Z) => mm_Wp X (D + 2) mm_r67 57 [some (.ref 0), some (.ref ((Z 0 2 0).toNat)), some (.ref ((Z 0 3 0).toNat)), some (dz_I s10.1)] [] (hz_0 s10.2) Q) (fun s10 H => ?_) 5000 (0, q9) H
  refine wp_s (i := .iload_n 3) (n := 1) (pc' := 58) (st' := [dz_I s10.1]) rfl rfl ?_
  refine wp_s (i := .iconst 2) (n := 1) (pc' := 59) (st' := [dz_I 2, dz_I s10.1]) rfl rfl ?_
  refine wq_ic (p := 2 ≤ dz_c s10.1) (tt := 78) (pc' := 62) rfl rfl (cq_ge rfl dk_2) rfl (fun c11 => ?_) (fun c11 => ?_)
  · replace H := dz_it c11 H
    refine wq_rv rfl rfl ?_
    replace H := dz_out H
    replace H := dz_sm H
    exact H
  · replace H := dz_if c11 H
    refine wp_s (i := .aload_n 0) (n := 1) (pc' := 63) (st' := [.ref 0]) rfl rfl ?_
    refine wq_gr (idx := 58) (a := 66) (pc' := 66) rfl rfl ho_O rfl rfl ?_
    refine wp_s (i := .iload_n 3) (n := 1) (pc' := 67) (st' := [dz_I s10.1, .ref 66]) rfl rfl ?_
    obtain ⟨k12, H⟩ := dz_ck H
    refine wq_aa (j' := dz_c s10.1) (a := 68 + 19 * Int.toNat (dz_c s10.1)) (pc' := 68) rfl (by decide) ha_O_7 rfl k12.1 k12.2 (hr_I k12.1 k12.2) rfl ?_
    refine wp_s (i := .iconst 0) (n := 1) (pc' := 69) (st' := [dz_I 0, .ref (68 + 19 * Int.toNat (dz_c s10.1))]) rfl rfl ?_
    refine wq_pi (idx := 104) (x := 0) (pc' := 72) rfl rfl rfl (ho_I (hi_I k12.1 k12.2)) rfl rfl rfl rfl (fun Z13 eZ13 => ?_)
    replace H := dz_le H Z13 eZ13
    clear eZ13
    refine wq_inc (k := 3) (d := 1) (x := s10.1) (ls' := [some (.ref 0), some (.ref ((Z 0 2 0).toNat)), some (.ref ((Z 0 3 0).toNat)), some (dz_I (s10.1 + 1))]) (pc' := 75) rfl rfl rfl rfl ?_
    refine wp_s (i := .goto (-18)) (n := 3) (pc' := 57) (st' := []) rfl rfl ?_
    replace H := dz_back H
    exact H
-- 66
def jf_O_organ (Z : dz_Z) : Option (Int × dz_Z) := Option.bind (jf_R_begin Z) fun q1 => dz_lp (fun (s2 : Int × dz_Z) => if 320 ≤ dz_c s2.1 then (dz_a (dz_u s2.2 2 1 0 0) fun Z4 => dz_a (dz_u Z4 0 9 0 (Z4 1 3 0)) fun Z5 => if dz_c (Z5 0 9 0) = 0 then (Option.bind (jf_O_takeWhatWasRead Z5) fun q7 => some (Sum.inr (s2.1, q7))) else (some (Sum.inr ((-10) - (Z5 1 4 0), Z5)))) else (Option.bind (jf_R_readLine s2.2) fun q8 => if q8.1 = false then (dz_a (dz_u q8.2 2 1 0 0) fun Z10 => dz_a (dz_u Z10 0 9 0 (Z10 1 3 0)) fun Z11 => if dz_c (Z11 0 9 0) = 0 then (Option.bind (jf_O_takeWhatWasRead Z11) fun q13 => some (Sum.inr (s2.1, q13))) else (some (Sum.inr ((-10) - (Z11 1 4 0), Z11)))) else (some (Sum.inl (s2.1 + 1, q8.2))))) 5000 (0, q1)
set_option maxRecDepth 20000 in
theorem jw_O_organ {X : Option (List Int32)} {D : Nat} {Q : Option Value → mm_H → Prop} (Z : dz_Z) (H : dz_p (jf_O_organ Z) (fun q => Q (some (dz_I q.1)) (hz_0 q.2))) : mm_Wp X (D + 9) mm_r66 0 [some (.ref 0), none] [] (hz_0 Z) Q := by
  unfold jf_O_organ at H
  refine wp_s (i := .iconst 0) (n := 1) (pc' := 1) (st' := [dz_I 0]) rfl rfl ?_
  refine wq_st (k := 1) (i := .istore_n 1) (n := 1) (ls' := [some (.ref 0), some (dz_I 0)]) (pc' := 2) rfl rfl rfl rfl rfl ?_
  refine wp_s (i := .aload_n 0) (n := 1) (pc' := 3) (st' := [.ref 0]) rfl rfl ?_
  refine wq_gr (idx := 10) (a := 1) (pc' := 6) rfl rfl ho_O rfl rfl ?_
  refine wq_cv (Dq := (D + 8)) (r' := mm_r29) (as0 := []) (rest := []) (ls' := [some (.ref 1)]) (pc' := 9) rfl rfl rfl rfl ho_R rfl rfl rfl ?_
  refine jw_R_begin (X := X) (D := D + 6) Z (dz_pm (dz_bi H) (fun q1 H => ?_))
  show mm_Wp X (D + 9) mm_r66 9 [some (.ref 0), some (dz_I 0)] [] (hz_0 q1) Q
  refine dz_lpi (P := fun (s2 : Int × dz_Z) => mm_Wp X (D + 9) mm_r66 9 [some (.ref 0), some (dz_I s2.1)] [] (hz_0 s2.2) Q) (fun s2 H => ?_) 5000 (0, q1) H
  refine wp_s (i := .iload_n 1) (n := 1) (pc' := 10) (st' := [dz_I s2.1]) rfl rfl ?_
  refine wp_s (i := .sipush 320) (n := 3) (pc' := 13) (st' := [dz_I 320, dz_I s2.1]) rfl rfl ?_
  refine wq_ic (p := 320 ≤ dz_c s2.1) (tt := 32) (pc' := 16) rfl rfl (cq_ge rfl dk_320) rfl (fun c3 => ?_) (fun c3 => ?_)
  · replace H := dz_it c3 H
    refine wp_s (i := .aload_n 0) (n := 1) (pc' := 33) (st' := [.ref 0]) rfl rfl ?_
    refine wq_gr (idx := 20) (a := 2) (pc' := 36) rfl rfl ho_O rfl rfl ?_
    refine wp_s (i := .iconst 0) (n := 1) (pc' := 37) (st' := [dz_I 0, .ref 2]) rfl rfl ?_
    refine wq_pi (idx := 70) (x := 0) (pc' := 40) rfl rfl rfl ho_T rfl rfl rfl rfl (fun Z4 eZ4 => ?_)
    replace H := dz_le H Z4 eZ4
    clear eZ4
    refine wp_s (i := .aload_n 0) (n := 1) (pc' := 41) (st' := [.ref 0]) rfl rfl ?_
    refine wp_s (i := .aload_n 0) (n := 1) (pc' := 42) (st' := [.ref 0, .ref 0]) rfl rfl ?_
    refine wq_gr (idx := 10) (a := 1) (pc' := 45) rfl rfl ho_O rfl rfl ?_
    refine wq_gi (idx := 87) (pc' := 48) rfl rfl ho_R rfl rfl ?_
    refine wq_pi (idx := 90) (x := Z4 1 3 0) (pc' := 51) rfl rfl rfl ho_O rfl rfl rfl rfl (fun Z5 eZ5 => ?_)
    replace H := dz_le H Z5 eZ5
    clear eZ5
    refine wp_s (i := .aload_n 0) (n := 1) (pc' := 52) (st' := [.ref 0]) rfl rfl ?_
    refine wq_gi (idx := 90) (pc' := 55) rfl rfl ho_O rfl rfl ?_
    refine wq_if (p := dz_c (Z5 0 9 0) = 0) (tt := 69) (pc' := 58) rfl rfl (cz_eq rfl) rfl (fun c6 => ?_) (fun c6 => ?_)
    · replace H := dz_it c6 H
      refine wp_s (i := .aload_n 0) (n := 1) (pc' := 70) (st' := [.ref 0]) rfl rfl ?_
      refine wq_cv (Dq := (D + 8)) (r' := mm_r67) (as0 := []) (rest := []) (ls' := [some (.ref 0), none, none, none]) (pc' := 73) rfl rfl rfl rfl ho_O rfl rfl rfl ?_
      refine jw_O_takeWhatWasRead (X := X) (D := D + 6) Z5 (dz_pm (dz_bi H) (fun q7 H => ?_))
      show mm_Wp X (D + 9) mm_r66 73 [some (.ref 0), some (dz_I s2.1)] [] (hz_0 q7) Q
      refine wp_s (i := .iload_n 1) (n := 1) (pc' := 74) (st' := [dz_I s2.1]) rfl rfl ?_
      refine wq_ri rfl rfl ?_
      replace H := dz_out H
      replace H := dz_sm H
      exact H
    · replace H := dz_if c6 H
      refine wp_s (i := .bipush (-10)) (n := 2) (pc' := 60) (st' := [dz_I (-10)]) rfl rfl ?_
      refine wp_s (i := .aload_n 0) (n := 1) (pc' := 61) (st' := [.ref 0, dz_I (-10)]) rfl rfl ?_
      refine wq_gr (idx := 10) (a := 1) (pc' := 64) rfl rfl ho_O rfl rfl ?_
      refine wq_gi (idx := 93) (pc' := 67) rfl rfl ho_R rfl rfl ?_
      refine wq_2 (i := .isub) (z := (-10) - (Z5 1 4 0)) (pc' := 68) rfl rfl (op_sub _ _) rfl ?_
      refine wq_ri rfl rfl ?_
      replace H := dz_out H
      replace H := dz_sm H
      exact H
  · replace H := dz_if c3 H
    refine wp_s (i := .aload_n 0) (n := 1) (pc' := 17) (st' := [.ref 0]) rfl rfl ?_
    refine wq_gr (idx := 10) (a := 1) (pc' := 20) rfl rfl ho_O rfl rfl ?_
    refine wq_cv (Dq := (D + 8)) (r' := mm_r37) (as0 := []) (rest := []) (ls' := [some (.ref 1)]) (pc' := 23) rfl rfl rfl rfl ho_R rfl rfl rfl ?_
    refine jw_R_readLine (X := X) (D := D + 0) s2.2 (dz_pm (dz_bi H) (fun q8 H => ?_))
    show mm_Wp X (D + 9) mm_r66 23 [some (.ref 0), some (dz_I s2.1)] [dz_B q8.1] (hz_0 q8.2) Q
    refine wq_if (p := q8.1 = false) (tt := 32) (pc' := 26) rfl rfl (cb_eq) rfl (fun c9 => ?_) (fun c9 => ?_)
    · replace H := dz_it c9 H
      refine wp_s (i := .aload_n 0) (n := 1) (pc' := 33) (st' := [.ref 0]) rfl rfl ?_
      refine wq_gr (idx := 20) (a := 2) (pc' := 36) rfl rfl ho_O rfl rfl ?_
      refine wp_s (i := .iconst 0) (n := 1) (pc' := 37) (st' := [dz_I 0, .ref 2]) rfl rfl ?_
      refine wq_pi (idx := 70) (x := 0) (pc' := 40) rfl rfl rfl ho_T rfl rfl rfl rfl (fun Z10 eZ10 => ?_)
      replace H := dz_le H Z10 eZ10
      clear eZ10
      refine wp_s (i := .aload_n 0) (n := 1) (pc' := 41) (st' := [.ref 0]) rfl rfl ?_
      refine wp_s (i := .aload_n 0) (n := 1) (pc' := 42) (st' := [.ref 0, .ref 0]) rfl rfl ?_
      refine wq_gr (idx := 10) (a := 1) (pc' := 45) rfl rfl ho_O rfl rfl ?_
      refine wq_gi (idx := 87) (pc' := 48) rfl rfl ho_R rfl rfl ?_
      refine wq_pi (idx := 90) (x := Z10 1 3 0) (pc' := 51) rfl rfl rfl ho_O rfl rfl rfl rfl (fun Z11 eZ11 => ?_)
      replace H := dz_le H Z11 eZ11
      clear eZ11
      refine wp_s (i := .aload_n 0) (n := 1) (pc' := 52) (st' := [.ref 0]) rfl rfl ?_
      refine wq_gi (idx := 90) (pc' := 55) rfl rfl ho_O rfl rfl ?_
      refine wq_if (p := dz_c (Z11 0 9 0) = 0) (tt := 69) (pc' := 58) rfl rfl (cz_eq rfl) rfl (fun c12 => ?_) (fun c12 => ?_)
      · replace H := dz_it c12 H
        refine wp_s (i := .aload_n 0) (n := 1) (pc' := 70) (st' := [.ref 0]) rfl rfl ?_
        refine wq_cv (Dq := (D + 8)) (r' := mm_r67) (as0 := []) (rest := []) (ls' := [some (.ref 0), none, none, none]) (pc' := 73) rfl rfl rfl rfl ho_O rfl rfl rfl ?_
        refine jw_O_takeWhatWasRead (X := X) (D := D + 6) Z11 (dz_pm (dz_bi H) (fun q13 H => ?_))
        show mm_Wp X (D + 9) mm_r66 73 [some (.ref 0), some (dz_I s2.1)] [] (hz_0 q13) Q
        refine wp_s (i := .iload_n 1) (n := 1) (pc' := 74) (st' := [dz_I s2.1]) rfl rfl ?_
        refine wq_ri rfl rfl ?_
        replace H := dz_out H
        replace H := dz_sm H
        exact H
      · replace H := dz_if c12 H
        refine wp_s (i := .bipush (-10)) (n := 2) (pc' := 60) (st' := [dz_I (-10)]) rfl rfl ?_
        refine wp_s (i := .aload_n 0) (n := 1) (pc' := 61) (st' := [.ref 0, dz_I (-10)]) rfl rfl ?_
        refine wq_gr (idx := 10) (a := 1) (pc' := 64) rfl rfl ho_O rfl rfl ?_
        refine wq_gi (idx := 93) (pc' := 67) rfl rfl ho_R rfl rfl ?_
        refine wq_2 (i := .isub) (z := (-10) - (Z11 1 4 0)) (pc' := 68) rfl rfl (op_sub _ _) rfl ?_
        refine wq_ri rfl rfl ?_
        replace H := dz_out H
        replace H := dz_sm H
        exact H
    · replace H := dz_if c9 H
      refine wq_inc (k := 1) (d := 1) (x := s2.1) (ls' := [some (.ref 0), some (dz_I (s2.1 + 1))]) (pc' := 29) rfl rfl rfl rfl ?_
      refine wp_s (i := .goto (-20)) (n := 3) (pc' := 9) (st' := []) rfl rfl ?_
      replace H := dz_back H
      exact H
end mg_25m04
section mg_25m05
-- 68
def jf_O_fault (Z : dz_Z) : Option (Int) := some (Z 0 9 0)
set_option maxRecDepth 20000 in
theorem jw_O_fault {X : Option (List Int32)} {D : Nat} {Q : Option Value → mm_H → Prop} (Z : dz_Z) (H : dz_p (jf_O_fault Z) (fun q => Q (some (dz_I q)) (hz_0 Z))) : mm_Wp X D mm_r68 0 [some (.ref 0)] [] (hz_0 Z) Q := by
  unfold jf_O_fault at H
  refine wp_s (i := .aload_n 0) (n := 1) (pc' := 1) (st' := [.ref 0]) rfl rfl ?_
  refine wq_gi (idx := 90) (pc' := 4) rfl rfl ho_O rfl rfl ?_
  refine wq_ri rfl rfl ?_
  replace H := dz_sm H
  exact H
-- 69
def jf_O_rule (a1 : Int) (Z : dz_Z) : Option (Int) := if dz_c a1 = 0 then (if hz_isP (Z 0 2 0).toNat then some (Z ((Z 0 2 0).toNat) 0 0) else none) else (if dz_c a1 = 1 then (if hz_isP (Z 0 2 0).toNat then some (Z ((Z 0 2 0).toNat) 3 0) else none) else (if dz_c a1 = 2 then (if hz_isP (Z 0 2 0).toNat then some (Z ((Z 0 2 0).toNat) 6 0) else none) else (if dz_c a1 = 3 then (if hz_isP (Z 0 2 0).toNat then some (Z ((Z 0 2 0).toNat) 10 0) else none) else (if dz_c a1 = 4 then (if hz_isS (Z 0 3 0).toNat then some (Z ((Z 0 3 0).toNat) 6 0) else none) else (if dz_c a1 = 5 then (if hz_isP (Z 0 2 0).toNat then some (Z ((Z 0 2 0).toNat) 11 0) else none) else (if dz_c a1 = 6 then (if hz_isP (Z 0 2 0).toNat then some (Z ((Z 0 2 0).toNat) 15 0) else none) else (some (-1))))))))
set_option maxRecDepth 20000 in
theorem jw_O_rule {X : Option (List Int32)} {D : Nat} {Q : Option Value → mm_H → Prop} (a1 : Int) (Z : dz_Z) (H : dz_p (jf_O_rule a1 Z) (fun q => Q (some (dz_I q)) (hz_0 Z))) : mm_Wp X D mm_r69 0 [some (.ref 0), some (dz_I a1)] [] (hz_0 Z) Q := by
  unfold jf_O_rule at H
  refine wp_s (i := .iload_n 1) (n := 1) (pc' := 1) (st' := [dz_I a1]) rfl rfl ?_
  by_cases c1 : dz_c a1 = 0
  · replace H := dz_it c1 H
    refine wq_ts (x' := dz_c a1) (tt := 44) rfl rfl (by rw [c1]; rfl) ?_
    refine wp_s (i := .aload_n 0) (n := 1) (pc' := 45) (st' := [.ref 0]) rfl rfl ?_
    obtain ⟨k2, H⟩ := dz_ck H
    refine wq_gd (idx := 24) (pc' := 48) rfl rfl ho_O rfl rfl ?_
    refine wq_gi (idx := 108) (pc' := 51) rfl rfl (ho_P k2) rfl rfl ?_
    refine wq_ri rfl rfl ?_
    replace H := dz_sm H
    exact H
  · replace H := dz_if c1 H
    by_cases c3 : dz_c a1 = 1
    · replace H := dz_it c3 H
      refine wq_ts (x' := dz_c a1) (tt := 52) rfl rfl (by rw [c3]; rfl) ?_
      refine wp_s (i := .aload_n 0) (n := 1) (pc' := 53) (st' := [.ref 0]) rfl rfl ?_
      obtain ⟨k4, H⟩ := dz_ck H
      refine wq_gd (idx := 24) (pc' := 56) rfl rfl ho_O rfl rfl ?_
      refine wq_gi (idx := 111) (pc' := 59) rfl rfl (ho_P k4) rfl rfl ?_
      refine wq_ri rfl rfl ?_
      replace H := dz_sm H
      exact H
    · replace H := dz_if c3 H
      by_cases c5 : dz_c a1 = 2
      · replace H := dz_it c5 H
        refine wq_ts (x' := dz_c a1) (tt := 60) rfl rfl (by rw [c5]; rfl) ?_
        refine wp_s (i := .aload_n 0) (n := 1) (pc' := 61) (st' := [.ref 0]) rfl rfl ?_
        obtain ⟨k6, H⟩ := dz_ck H
        refine wq_gd (idx := 24) (pc' := 64) rfl rfl ho_O rfl rfl ?_
        refine wq_gi (idx := 114) (pc' := 67) rfl rfl (ho_P k6) rfl rfl ?_
        refine wq_ri rfl rfl ?_
        replace H := dz_sm H
        exact H
      · replace H := dz_if c5 H
        by_cases c7 : dz_c a1 = 3
        · replace H := dz_it c7 H
          refine wq_ts (x' := dz_c a1) (tt := 68) rfl rfl (by rw [c7]; rfl) ?_
          refine wp_s (i := .aload_n 0) (n := 1) (pc' := 69) (st' := [.ref 0]) rfl rfl ?_
          obtain ⟨k8, H⟩ := dz_ck H
          refine wq_gd (idx := 24) (pc' := 72) rfl rfl ho_O rfl rfl ?_
          refine wq_gi (idx := 117) (pc' := 75) rfl rfl (ho_P k8) rfl rfl ?_
          refine wq_ri rfl rfl ?_
          replace H := dz_sm H
          exact H
        · replace H := dz_if c7 H
          by_cases c9 : dz_c a1 = 4
          · replace H := dz_it c9 H
            refine wq_ts (x' := dz_c a1) (tt := 76) rfl rfl (by rw [c9]; rfl) ?_
            refine wp_s (i := .aload_n 0) (n := 1) (pc' := 77) (st' := [.ref 0]) rfl rfl ?_
            obtain ⟨k10, H⟩ := dz_ck H
            refine wq_gd (idx := 31) (pc' := 80) rfl rfl ho_O rfl rfl ?_
            refine wq_gi (idx := 120) (pc' := 83) rfl rfl (ho_S k10) rfl rfl ?_
            refine wq_ri rfl rfl ?_
            replace H := dz_sm H
            exact H
          · replace H := dz_if c9 H
            by_cases c11 : dz_c a1 = 5
            · replace H := dz_it c11 H
              refine wq_ts (x' := dz_c a1) (tt := 84) rfl rfl (by rw [c11]; rfl) ?_
              refine wp_s (i := .aload_n 0) (n := 1) (pc' := 85) (st' := [.ref 0]) rfl rfl ?_
              obtain ⟨k12, H⟩ := dz_ck H
              refine wq_gd (idx := 24) (pc' := 88) rfl rfl ho_O rfl rfl ?_
              refine wq_gi (idx := 123) (pc' := 91) rfl rfl (ho_P k12) rfl rfl ?_
              refine wq_ri rfl rfl ?_
              replace H := dz_sm H
              exact H
            · replace H := dz_if c11 H
              by_cases c13 : dz_c a1 = 6
              · replace H := dz_it c13 H
                refine wq_ts (x' := dz_c a1) (tt := 92) rfl rfl (by rw [c13]; rfl) ?_
                refine wp_s (i := .aload_n 0) (n := 1) (pc' := 93) (st' := [.ref 0]) rfl rfl ?_
                obtain ⟨k14, H⟩ := dz_ck H
                refine wq_gd (idx := 24) (pc' := 96) rfl rfl ho_O rfl rfl ?_
                refine wq_gi (idx := 126) (pc' := 99) rfl rfl (ho_P k14) rfl rfl ?_
                refine wq_ri rfl rfl ?_
                replace H := dz_sm H
                exact H
              · replace H := dz_if c13 H
                refine wq_ts (x' := dz_c a1) (tt := 100) rfl rfl (by unfold mm_sw; rw [if_pos (by omega)]; rfl) ?_
                refine wp_s (i := .iconst (-1)) (n := 1) (pc' := 101) (st' := [dz_I (-1)]) rfl rfl ?_
                refine wq_ri rfl rfl ?_
                replace H := dz_sm H
                exact H
-- 103
def jf_O_isGutter (a1 : Int) (Z : dz_Z) : Option (Bool) := if dz_c a1 < 0 then (some false) else (if hz_isP (Z 0 2 0).toNat then if dz_c (Z ((Z 0 2 0).toNat) 3 0) ≤ dz_c a1 then (some false) else (some true) else none)
set_option maxRecDepth 20000 in
theorem jw_O_isGutter {X : Option (List Int32)} {D : Nat} {Q : Option Value → mm_H → Prop} (a1 : Int) (Z : dz_Z) (H : dz_p (jf_O_isGutter a1 Z) (fun q => Q (some (dz_B q)) (hz_0 Z))) : mm_Wp X D mm_r103 0 [some (.ref 0), some (dz_I a1)] [] (hz_0 Z) Q := by
  unfold jf_O_isGutter at H
  refine wp_s (i := .iload_n 1) (n := 1) (pc' := 1) (st' := [dz_I a1]) rfl rfl ?_
  refine wq_if (p := dz_c a1 < 0) (tt := 19) (pc' := 4) rfl rfl (cz_lt rfl) rfl (fun c1 => ?_) (fun c1 => ?_)
  · replace H := dz_it c1 H
    refine wp_s (i := .iconst 0) (n := 1) (pc' := 20) (st' := [dz_I 0]) rfl rfl ?_
    refine wq_rf rfl rfl ?_
    replace H := dz_sm H
    exact H
  · replace H := dz_if c1 H
    refine wp_s (i := .iload_n 1) (n := 1) (pc' := 5) (st' := [dz_I a1]) rfl rfl ?_
    refine wp_s (i := .aload_n 0) (n := 1) (pc' := 6) (st' := [.ref 0, dz_I a1]) rfl rfl ?_
    obtain ⟨k2, H⟩ := dz_ck H
    refine wq_gd (idx := 24) (pc' := 9) rfl rfl ho_O rfl rfl ?_
    refine wq_gi (idx := 111) (pc' := 12) rfl rfl (ho_P k2) rfl rfl ?_
    refine wq_ic (p := dz_c (Z ((Z 0 2 0).toNat) 3 0) ≤ dz_c a1) (tt := 19) (pc' := 15) rfl rfl (cq_ge rfl rfl) rfl (fun c3 => ?_) (fun c3 => ?_)
    · replace H := dz_it c3 H
      refine wp_s (i := .iconst 0) (n := 1) (pc' := 20) (st' := [dz_I 0]) rfl rfl ?_
      refine wq_rf rfl rfl ?_
      replace H := dz_sm H
      exact H
    · replace H := dz_if c3 H
      refine wp_s (i := .iconst 1) (n := 1) (pc' := 16) (st' := [dz_I 1]) rfl rfl ?_
      refine wp_s (i := .goto 4) (n := 3) (pc' := 20) (st' := [dz_I 1]) rfl rfl ?_
      refine wq_rt rfl rfl ?_
      replace H := dz_sm H
      exact H
-- 70
def jf_O_gutter (a1 : Int) (a2 : Int) (Z : dz_Z) : Option (Int) := Option.bind (jf_O_isGutter a1 Z) fun q1 => if q1 = true then (if dz_c a2 = 0 then (if hz_isP (Z 0 2 0).toNat then if 0 ≤ dz_c a1 ∧ dz_c a1 < 5 then some (Z ((Z 0 2 0).toNat) 4 (dz_c a1)) else none else none) else (if dz_c a2 = 1 then (if hz_isP (Z 0 2 0).toNat then if 0 ≤ dz_c a1 ∧ dz_c a1 < 5 then some (Z ((Z 0 2 0).toNat) 5 (dz_c a1)) else none else none) else (if dz_c a2 = 2 then (if hz_isS (Z 0 3 0).toNat then if 0 ≤ dz_c a1 ∧ dz_c a1 < 5 then some (Z ((Z 0 3 0).toNat) 0 (dz_c a1)) else none else none) else (if dz_c a2 = 3 then (if hz_isS (Z 0 3 0).toNat then if 0 ≤ dz_c a1 ∧ dz_c a1 < 5 then some (Z ((Z 0 3 0).toNat) 1 (dz_c a1)) else none else none) else (some (-1)))))) else (some (-1))
set_option maxRecDepth 20000 in
theorem jw_O_gutter {X : Option (List Int32)} {D : Nat} {Q : Option Value → mm_H → Prop} (a1 : Int) (a2 : Int) (Z : dz_Z) (H : dz_p (jf_O_gutter a1 a2 Z) (fun q => Q (some (dz_I q)) (hz_0 Z))) : mm_Wp X (D + 1) mm_r70 0 [some (.ref 0), some (dz_I a1), some (dz_I a2)] [] (hz_0 Z) Q := by
  unfold jf_O_gutter at H
  refine wp_s (i := .aload_n 0) (n := 1) (pc' := 1) (st' := [.ref 0]) rfl rfl ?_
  refine wp_s (i := .iload_n 1) (n := 1) (pc' := 2) (st' := [dz_I a1, .ref 0]) rfl rfl ?_
  refine wq_cv (Dq := D) (r' := mm_r103) (as0 := [dz_I a1]) (rest := []) (ls' := [some (.ref 0), some (dz_I a1)]) (pc' := 5) rfl rfl rfl rfl ho_O rfl rfl rfl ?_
  refine jw_O_isGutter (X := X) (D := D + 0) a1 Z (dz_pm (dz_bi H) (fun q1 H => ?_))
  show mm_Wp X (D + 1) mm_r70 5 [some (.ref 0), some (dz_I a1), some (dz_I a2)] [dz_B q1] (hz_0 Z) Q
  refine wq_if (p := q1 = true) (tt := 10) (pc' := 8) rfl rfl (cb_ne) rfl (fun c2 => ?_) (fun c2 => ?_)
  · replace H := dz_it c2 H
    refine wp_s (i := .iload_n 2) (n := 1) (pc' := 11) (st' := [dz_I a2]) rfl rfl ?_
    by_cases c3 : dz_c a2 = 0
    · replace H := dz_it c3 H
      refine wq_ts (x' := dz_c a2) (tt := 40) rfl rfl (by rw [c3]; rfl) ?_
      refine wp_s (i := .aload_n 0) (n := 1) (pc' := 41) (st' := [.ref 0]) rfl rfl ?_
      obtain ⟨k4, H⟩ := dz_ck H
      refine wq_gd (idx := 24) (pc' := 44) rfl rfl ho_O rfl rfl ?_
      refine wq_gr (idx := 133) (a := (Z 0 2 0).toNat + 3) (pc' := 47) rfl rfl (ho_P k4) rfl rfl ?_
      refine wp_s (i := .iload_n 1) (n := 1) (pc' := 48) (st' := [dz_I a1, .ref ((Z 0 2 0).toNat + 3)]) rfl rfl ?_
      obtain ⟨k5, H⟩ := dz_ck H
      refine wq_ia (j' := dz_c a1) (pc' := 49) rfl (ha_P_4 k4) rfl k5.1 k5.2 rfl ?_
      refine wq_ri rfl rfl ?_
      replace H := dz_sm H
      exact H
    · replace H := dz_if c3 H
      by_cases c6 : dz_c a2 = 1
      · replace H := dz_it c6 H
        refine wq_ts (x' := dz_c a2) (tt := 50) rfl rfl (by rw [c6]; rfl) ?_
        refine wp_s (i := .aload_n 0) (n := 1) (pc' := 51) (st' := [.ref 0]) rfl rfl ?_
        obtain ⟨k7, H⟩ := dz_ck H
        refine wq_gd (idx := 24) (pc' := 54) rfl rfl ho_O rfl rfl ?_
        refine wq_gr (idx := 137) (a := (Z 0 2 0).toNat + 4) (pc' := 57) rfl rfl (ho_P k7) rfl rfl ?_
        refine wp_s (i := .iload_n 1) (n := 1) (pc' := 58) (st' := [dz_I a1, .ref ((Z 0 2 0).toNat + 4)]) rfl rfl ?_
        obtain ⟨k8, H⟩ := dz_ck H
        refine wq_ia (j' := dz_c a1) (pc' := 59) rfl (ha_P_5 k7) rfl k8.1 k8.2 rfl ?_
        refine wq_ri rfl rfl ?_
        replace H := dz_sm H
        exact H
      · replace H := dz_if c6 H
        by_cases c9 : dz_c a2 = 2
        · replace H := dz_it c9 H
          refine wq_ts (x' := dz_c a2) (tt := 60) rfl rfl (by rw [c9]; rfl) ?_
          refine wp_s (i := .aload_n 0) (n := 1) (pc' := 61) (st' := [.ref 0]) rfl rfl ?_
          obtain ⟨k10, H⟩ := dz_ck H
          refine wq_gd (idx := 31) (pc' := 64) rfl rfl ho_O rfl rfl ?_
          refine wq_gr (idx := 140) (a := (Z 0 3 0).toNat + 1) (pc' := 67) rfl rfl (ho_S k10) rfl rfl ?_
          refine wp_s (i := .iload_n 1) (n := 1) (pc' := 68) (st' := [dz_I a1, .ref ((Z 0 3 0).toNat + 1)]) rfl rfl ?_
          obtain ⟨k11, H⟩ := dz_ck H
          refine wq_ia (j' := dz_c a1) (pc' := 69) rfl (ha_S_0 k10) rfl k11.1 k11.2 rfl ?_
          refine wq_ri rfl rfl ?_
          replace H := dz_sm H
          exact H
        · replace H := dz_if c9 H
          by_cases c12 : dz_c a2 = 3
          · replace H := dz_it c12 H
            refine wq_ts (x' := dz_c a2) (tt := 70) rfl rfl (by rw [c12]; rfl) ?_
            refine wp_s (i := .aload_n 0) (n := 1) (pc' := 71) (st' := [.ref 0]) rfl rfl ?_
            obtain ⟨k13, H⟩ := dz_ck H
            refine wq_gd (idx := 31) (pc' := 74) rfl rfl ho_O rfl rfl ?_
            refine wq_gr (idx := 143) (a := (Z 0 3 0).toNat + 2) (pc' := 77) rfl rfl (ho_S k13) rfl rfl ?_
            refine wp_s (i := .iload_n 1) (n := 1) (pc' := 78) (st' := [dz_I a1, .ref ((Z 0 3 0).toNat + 2)]) rfl rfl ?_
            obtain ⟨k14, H⟩ := dz_ck H
            refine wq_ia (j' := dz_c a1) (pc' := 79) rfl (ha_S_1 k13) rfl k14.1 k14.2 rfl ?_
            refine wq_ri rfl rfl ?_
            replace H := dz_sm H
            exact H
          · replace H := dz_if c12 H
            refine wq_ts (x' := dz_c a2) (tt := 80) rfl rfl (by unfold mm_sw; rw [if_pos (by omega)]; rfl) ?_
            refine wp_s (i := .iconst (-1)) (n := 1) (pc' := 81) (st' := [dz_I (-1)]) rfl rfl ?_
            refine wq_ri rfl rfl ?_
            replace H := dz_sm H
            exact H
  · replace H := dz_if c2 H
    refine wp_s (i := .iconst (-1)) (n := 1) (pc' := 9) (st' := [dz_I (-1)]) rfl rfl ?_
    refine wq_ri rfl rfl ?_
    replace H := dz_sm H
    exact H
-- 104
def jf_O_isSpout (a1 : Int) (Z : dz_Z) : Option (Bool) := if dz_c a1 < 0 then (some false) else (if hz_isP (Z 0 2 0).toNat then if dz_c (Z ((Z 0 2 0).toNat) 6 0) ≤ dz_c a1 then (some false) else (some true) else none)
set_option maxRecDepth 20000 in
theorem jw_O_isSpout {X : Option (List Int32)} {D : Nat} {Q : Option Value → mm_H → Prop} (a1 : Int) (Z : dz_Z) (H : dz_p (jf_O_isSpout a1 Z) (fun q => Q (some (dz_B q)) (hz_0 Z))) : mm_Wp X D mm_r104 0 [some (.ref 0), some (dz_I a1)] [] (hz_0 Z) Q := by
  unfold jf_O_isSpout at H
  refine wp_s (i := .iload_n 1) (n := 1) (pc' := 1) (st' := [dz_I a1]) rfl rfl ?_
  refine wq_if (p := dz_c a1 < 0) (tt := 19) (pc' := 4) rfl rfl (cz_lt rfl) rfl (fun c1 => ?_) (fun c1 => ?_)
  · replace H := dz_it c1 H
    refine wp_s (i := .iconst 0) (n := 1) (pc' := 20) (st' := [dz_I 0]) rfl rfl ?_
    refine wq_rf rfl rfl ?_
    replace H := dz_sm H
    exact H
  · replace H := dz_if c1 H
    refine wp_s (i := .iload_n 1) (n := 1) (pc' := 5) (st' := [dz_I a1]) rfl rfl ?_
    refine wp_s (i := .aload_n 0) (n := 1) (pc' := 6) (st' := [.ref 0, dz_I a1]) rfl rfl ?_
    obtain ⟨k2, H⟩ := dz_ck H
    refine wq_gd (idx := 24) (pc' := 9) rfl rfl ho_O rfl rfl ?_
    refine wq_gi (idx := 114) (pc' := 12) rfl rfl (ho_P k2) rfl rfl ?_
    refine wq_ic (p := dz_c (Z ((Z 0 2 0).toNat) 6 0) ≤ dz_c a1) (tt := 19) (pc' := 15) rfl rfl (cq_ge rfl rfl) rfl (fun c3 => ?_) (fun c3 => ?_)
    · replace H := dz_it c3 H
      refine wp_s (i := .iconst 0) (n := 1) (pc' := 20) (st' := [dz_I 0]) rfl rfl ?_
      refine wq_rf rfl rfl ?_
      replace H := dz_sm H
      exact H
    · replace H := dz_if c3 H
      refine wp_s (i := .iconst 1) (n := 1) (pc' := 16) (st' := [dz_I 1]) rfl rfl ?_
      refine wp_s (i := .goto 4) (n := 3) (pc' := 20) (st' := [dz_I 1]) rfl rfl ?_
      refine wq_rt rfl rfl ?_
      replace H := dz_sm H
      exact H
-- 71
def jf_O_spout (a1 : Int) (a2 : Int) (Z : dz_Z) : Option (Int) := Option.bind (jf_O_isSpout a1 Z) fun q1 => if q1 = true then (if hz_isS (Z 0 3 0).toNat then if 0 ≤ dz_c a1 ∧ dz_c a1 < 8 then if dz_c a2 = 0 then (if hz_isP (Z 0 2 0).toNat then some (Z ((Z 0 2 0).toNat) 7 (dz_c a1)) else none) else (if dz_c a2 = 1 then (some (Z ((Z 0 3 0).toNat) 2 (dz_c a1))) else (if dz_c a2 = 2 then (Option.bind (jf_O_hasSize (Z ((Z 0 3 0).toNat) 2 (dz_c a1))) fun q9 => if q9 = false then (some 0) else (if hz_isP (Z 0 2 0).toNat then some (Z ((Z 0 2 0).toNat) 8 (dz_c a1)) else none)) else (if dz_c a2 = 3 then (if dz_c (Z ((Z 0 3 0).toNat) 2 (dz_c a1)) ≠ 4 then (some (-4)) else (if hz_isP (Z 0 2 0).toNat then some (Z ((Z 0 2 0).toNat) 9 (dz_c a1)) else none)) else (if dz_c a2 = 4 then (some (Z 46 0 (dz_c a1))) else (if dz_c a2 = 5 then (some (dz_li (Z 46 2 (dz_c a1)))) else (if dz_c a2 = 6 then (if hz_isP (Z 0 2 0).toNat then Option.bind (jf_F_isBroken 46 ((Z 0 2 0).toNat) a1 Z) fun q19 => if q19 = false then (some 0) else (some 1) else none) else (if dz_c a2 = 7 then (some (Z 46 3 (dz_c a1))) else (some (-1))))))))) else none else none) else (some (-1))
set_option maxRecDepth 20000 in
theorem jw_O_spout {X : Option (List Int32)} {D : Nat} {Q : Option Value → mm_H → Prop} (a1 : Int) (a2 : Int) (Z : dz_Z) (H : dz_p (jf_O_spout a1 a2 Z) (fun q => Q (some (dz_I q)) (hz_0 Z))) : mm_Wp X (D + 1) mm_r71 0 [some (.ref 0), some (dz_I a1), some (dz_I a2), none] [] (hz_0 Z) Q := by
  unfold jf_O_spout at H
  refine wp_s (i := .aload_n 0) (n := 1) (pc' := 1) (st' := [.ref 0]) rfl rfl ?_
  refine wp_s (i := .iload_n 1) (n := 1) (pc' := 2) (st' := [dz_I a1, .ref 0]) rfl rfl ?_
  refine wq_cv (Dq := D) (r' := mm_r104) (as0 := [dz_I a1]) (rest := []) (ls' := [some (.ref 0), some (dz_I a1)]) (pc' := 5) rfl rfl rfl rfl ho_O rfl rfl rfl ?_
  refine jw_O_isSpout (X := X) (D := D + 0) a1 Z (dz_pm (dz_bi H) (fun q1 H => ?_))
  show mm_Wp X (D + 1) mm_r71 5 [some (.ref 0), some (dz_I a1), some (dz_I a2), none] [dz_B q1] (hz_0 Z) Q
  refine wq_if (p := q1 = true) (tt := 10) (pc' := 8) rfl rfl (cb_ne) rfl (fun c2 => ?_) (fun c2 => ?_)
  · replace H := dz_it c2 H
    refine wp_s (i := .aload_n 0) (n := 1) (pc' := 11) (st' := [.ref 0]) rfl rfl ?_
    obtain ⟨k3, H⟩ := dz_ck H
    refine wq_gd (idx := 31) (pc' := 14) rfl rfl ho_O rfl rfl ?_
    refine wq_gr (idx := 149) (a := (Z 0 3 0).toNat + 3) (pc' := 17) rfl rfl (ho_S k3) rfl rfl ?_
    refine wp_s (i := .iload_n 1) (n := 1) (pc' := 18) (st' := [dz_I a1, .ref ((Z 0 3 0).toNat + 3)]) rfl rfl ?_
    obtain ⟨k4, H⟩ := dz_ck H
    refine wq_ia (j' := dz_c a1) (pc' := 19) rfl (ha_S_2 k3) rfl k4.1 k4.2 rfl ?_
    refine wq_st (k := 3) (i := .istore_n 3) (n := 1) (ls' := [some (.ref 0), some (dz_I a1), some (dz_I a2), some (dz_I (Z ((Z 0 3 0).toNat) 2 (dz_c a1)))]) (pc' := 20) rfl rfl rfl rfl rfl ?_
    refine wp_s (i := .iload_n 2) (n := 1) (pc' := 21) (st' := [dz_I a2]) rfl rfl ?_
    by_cases c5 : dz_c a2 = 0
    · replace H := dz_it c5 H
      refine wq_ts (x' := dz_c a2) (tt := 68) rfl rfl (by rw [c5]; rfl) ?_
      refine wp_s (i := .aload_n 0) (n := 1) (pc' := 69) (st' := [.ref 0]) rfl rfl ?_
      obtain ⟨k6, H⟩ := dz_ck H
      refine wq_gd (idx := 24) (pc' := 72) rfl rfl ho_O rfl rfl ?_
      refine wq_gr (idx := 152) (a := (Z 0 2 0).toNat + 5) (pc' := 75) rfl rfl (ho_P k6) rfl rfl ?_
      refine wp_s (i := .iload_n 1) (n := 1) (pc' := 76) (st' := [dz_I a1, .ref ((Z 0 2 0).toNat + 5)]) rfl rfl ?_
      refine wq_ia (j' := dz_c a1) (pc' := 77) rfl (ha_P_7 k6) rfl k4.1 k4.2 rfl ?_
      refine wq_ri rfl rfl ?_
      replace H := dz_sm H
      exact H
    · replace H := dz_if c5 H
      by_cases c7 : dz_c a2 = 1
      · replace H := dz_it c7 H
        refine wq_ts (x' := dz_c a2) (tt := 78) rfl rfl (by rw [c7]; rfl) ?_
        refine wp_s (i := .iload_n 3) (n := 1) (pc' := 79) (st' := [dz_I (Z ((Z 0 3 0).toNat) 2 (dz_c a1))]) rfl rfl ?_
        refine wq_ri rfl rfl ?_
        replace H := dz_sm H
        exact H
      · replace H := dz_if c7 H
        by_cases c8 : dz_c a2 = 2
        · replace H := dz_it c8 H
          refine wq_ts (x' := dz_c a2) (tt := 80) rfl rfl (by rw [c8]; rfl) ?_
          refine wp_s (i := .iload_n 3) (n := 1) (pc' := 81) (st' := [dz_I (Z ((Z 0 3 0).toNat) 2 (dz_c a1))]) rfl rfl ?_
          refine wq_cs (Dq := D) (r' := mm_r110) (as0 := [dz_I (Z ((Z 0 3 0).toNat) 2 (dz_c a1))]) (rest := []) (ls' := [some (dz_I (Z ((Z 0 3 0).toNat) 2 (dz_c a1)))]) (pc' := 84) rfl rfl (by decide) rfl rfl rfl rfl rfl ?_
          refine jw_O_hasSize (X := X) (D := D + 0) (Z ((Z 0 3 0).toNat) 2 (dz_c a1)) Z (dz_pm (dz_bi H) (fun q9 H => ?_))
          show mm_Wp X (D + 1) mm_r71 84 [some (.ref 0), some (dz_I a1), some (dz_I a2), some (dz_I (Z ((Z 0 3 0).toNat) 2 (dz_c a1)))] [dz_B q9] (hz_0 Z) Q
          refine wq_if (p := q9 = false) (tt := 99) (pc' := 87) rfl rfl (cb_eq) rfl (fun c10 => ?_) (fun c10 => ?_)
          · replace H := dz_it c10 H
            refine wp_s (i := .iconst 0) (n := 1) (pc' := 100) (st' := [dz_I 0]) rfl rfl ?_
            refine wq_ri rfl rfl ?_
            replace H := dz_sm H
            exact H
          · replace H := dz_if c10 H
            refine wp_s (i := .aload_n 0) (n := 1) (pc' := 88) (st' := [.ref 0]) rfl rfl ?_
            obtain ⟨k11, H⟩ := dz_ck H
            refine wq_gd (idx := 24) (pc' := 91) rfl rfl ho_O rfl rfl ?_
            refine wq_gr (idx := 158) (a := (Z 0 2 0).toNat + 6) (pc' := 94) rfl rfl (ho_P k11) rfl rfl ?_
            refine wp_s (i := .iload_n 1) (n := 1) (pc' := 95) (st' := [dz_I a1, .ref ((Z 0 2 0).toNat + 6)]) rfl rfl ?_
            refine wq_ia (j' := dz_c a1) (pc' := 96) rfl (ha_P_8 k11) rfl k4.1 k4.2 rfl ?_
            refine wp_s (i := .goto 4) (n := 3) (pc' := 100) (st' := [dz_I (Z ((Z 0 2 0).toNat) 8 (dz_c a1))]) rfl rfl ?_
            refine wq_ri rfl rfl ?_
            replace H := dz_sm H
            exact H
        · replace H := dz_if c8 H
          by_cases c12 : dz_c a2 = 3
          · replace H := dz_it c12 H
            refine wq_ts (x' := dz_c a2) (tt := 101) rfl rfl (by rw [c12]; rfl) ?_
            refine wp_s (i := .iload_n 3) (n := 1) (pc' := 102) (st' := [dz_I (Z ((Z 0 3 0).toNat) 2 (dz_c a1))]) rfl rfl ?_
            refine wp_s (i := .iconst 4) (n := 1) (pc' := 103) (st' := [dz_I 4, dz_I (Z ((Z 0 3 0).toNat) 2 (dz_c a1))]) rfl rfl ?_
            refine wq_ic (p := dz_c (Z ((Z 0 3 0).toNat) 2 (dz_c a1)) ≠ 4) (tt := 118) (pc' := 106) rfl rfl (cq_ne rfl dk_4) rfl (fun c13 => ?_) (fun c13 => ?_)
            · replace H := dz_it c13 H
              refine wp_s (i := .bipush (-4)) (n := 2) (pc' := 120) (st' := [dz_I (-4)]) rfl rfl ?_
              refine wq_ri rfl rfl ?_
              replace H := dz_sm H
              exact H
            · replace H := dz_if c13 H
              refine wp_s (i := .aload_n 0) (n := 1) (pc' := 107) (st' := [.ref 0]) rfl rfl ?_
              obtain ⟨k14, H⟩ := dz_ck H
              refine wq_gd (idx := 24) (pc' := 110) rfl rfl ho_O rfl rfl ?_
              refine wq_gr (idx := 161) (a := (Z 0 2 0).toNat + 7) (pc' := 113) rfl rfl (ho_P k14) rfl rfl ?_
              refine wp_s (i := .iload_n 1) (n := 1) (pc' := 114) (st' := [dz_I a1, .ref ((Z 0 2 0).toNat + 7)]) rfl rfl ?_
              refine wq_ia (j' := dz_c a1) (pc' := 115) rfl (ha_P_9 k14) rfl k4.1 k4.2 rfl ?_
              refine wp_s (i := .goto 5) (n := 3) (pc' := 120) (st' := [dz_I (Z ((Z 0 2 0).toNat) 9 (dz_c a1))]) rfl rfl ?_
              refine wq_ri rfl rfl ?_
              replace H := dz_sm H
              exact H
          · replace H := dz_if c12 H
            by_cases c15 : dz_c a2 = 4
            · replace H := dz_it c15 H
              refine wq_ts (x' := dz_c a2) (tt := 121) rfl rfl (by rw [c15]; rfl) ?_
              refine wp_s (i := .aload_n 0) (n := 1) (pc' := 122) (st' := [.ref 0]) rfl rfl ?_
              refine wq_gr (idx := 38) (a := 46) (pc' := 125) rfl rfl ho_O rfl rfl ?_
              refine wq_gr (idx := 164) (a := 46 + 1) (pc' := 128) rfl rfl (ho_F (Or.inl rfl)) rfl rfl ?_
              refine wp_s (i := .iload_n 1) (n := 1) (pc' := 129) (st' := [dz_I a1, .ref (46 + 1)]) rfl rfl ?_
              refine wq_ia (j' := dz_c a1) (pc' := 130) rfl (ha_F_0 (Or.inl rfl)) rfl k4.1 k4.2 rfl ?_
              refine wq_ri rfl rfl ?_
              replace H := dz_sm H
              exact H
            · replace H := dz_if c15 H
              by_cases c16 : dz_c a2 = 5
              · replace H := dz_it c16 H
                refine wq_ts (x' := dz_c a2) (tt := 131) rfl rfl (by rw [c16]; rfl) ?_
                refine wp_s (i := .aload_n 0) (n := 1) (pc' := 132) (st' := [.ref 0]) rfl rfl ?_
                refine wq_gr (idx := 38) (a := 46) (pc' := 135) rfl rfl ho_O rfl rfl ?_
                refine wq_gr (idx := 167) (a := 46 + 3) (pc' := 138) rfl rfl (ho_F (Or.inl rfl)) rfl rfl ?_
                refine wp_s (i := .iload_n 1) (n := 1) (pc' := 139) (st' := [dz_I a1, .ref (46 + 3)]) rfl rfl ?_
                refine wq_la (j' := dz_c a1) (pc' := 140) rfl (ha_F_2 (Or.inl rfl)) rfl k4.1 k4.2 rfl ?_
                refine wq_3 (i := .l2i) (v' := dz_I (dz_li (Z 46 2 (dz_c a1)))) (pc' := 141) rfl rfl (oq_l2i _) rfl ?_
                refine wq_ri rfl rfl ?_
                replace H := dz_sm H
                exact H
              · replace H := dz_if c16 H
                by_cases c17 : dz_c a2 = 6
                · replace H := dz_it c17 H
                  refine wq_ts (x' := dz_c a2) (tt := 142) rfl rfl (by rw [c17]; rfl) ?_
                  refine wp_s (i := .aload_n 0) (n := 1) (pc' := 143) (st' := [.ref 0]) rfl rfl ?_
                  refine wq_gr (idx := 38) (a := 46) (pc' := 146) rfl rfl ho_O rfl rfl ?_
                  refine wp_s (i := .aload_n 0) (n := 1) (pc' := 147) (st' := [.ref 0, .ref 46]) rfl rfl ?_
                  obtain ⟨k18, H⟩ := dz_ck H
                  refine wq_gd (idx := 24) (pc' := 150) rfl rfl ho_O rfl rfl ?_
                  refine wp_s (i := .iload_n 1) (n := 1) (pc' := 151) (st' := [dz_I a1, .ref ((Z 0 2 0).toNat), .ref 46]) rfl rfl ?_
                  refine wq_cv (Dq := D) (r' := mm_r23) (as0 := [.ref ((Z 0 2 0).toNat), dz_I a1]) (rest := []) (ls' := [some (.ref 46), some (.ref ((Z 0 2 0).toNat)), some (dz_I a1)]) (pc' := 154) rfl rfl rfl rfl (ho_F (Or.inl rfl)) rfl rfl rfl ?_
                  refine jw_F_isBroken (X := X) (D := D + 0) 46 (Or.inl rfl) ((Z 0 2 0).toNat) k18 a1 Z (dz_pm (dz_bi H) (fun q19 H => ?_))
                  show mm_Wp X (D + 1) mm_r71 154 [some (.ref 0), some (dz_I a1), some (dz_I a2), some (dz_I (Z ((Z 0 3 0).toNat) 2 (dz_c a1)))] [dz_B q19] (hz_0 Z) Q
                  refine wq_if (p := q19 = false) (tt := 161) (pc' := 157) rfl rfl (cb_eq) rfl (fun c20 => ?_) (fun c20 => ?_)
                  · replace H := dz_it c20 H
                    refine wp_s (i := .iconst 0) (n := 1) (pc' := 162) (st' := [dz_I 0]) rfl rfl ?_
                    refine wq_ri rfl rfl ?_
                    replace H := dz_sm H
                    exact H
                  · replace H := dz_if c20 H
                    refine wp_s (i := .iconst 1) (n := 1) (pc' := 158) (st' := [dz_I 1]) rfl rfl ?_
                    refine wp_s (i := .goto 4) (n := 3) (pc' := 162) (st' := [dz_I 1]) rfl rfl ?_
                    refine wq_ri rfl rfl ?_
                    replace H := dz_sm H
                    exact H
                · replace H := dz_if c17 H
                  by_cases c21 : dz_c a2 = 7
                  · replace H := dz_it c21 H
                    refine wq_ts (x' := dz_c a2) (tt := 163) rfl rfl (by rw [c21]; rfl) ?_
                    refine wp_s (i := .aload_n 0) (n := 1) (pc' := 164) (st' := [.ref 0]) rfl rfl ?_
                    refine wq_gr (idx := 38) (a := 46) (pc' := 167) rfl rfl ho_O rfl rfl ?_
                    refine wq_gr (idx := 175) (a := 46 + 4) (pc' := 170) rfl rfl (ho_F (Or.inl rfl)) rfl rfl ?_
                    refine wp_s (i := .iload_n 1) (n := 1) (pc' := 171) (st' := [dz_I a1, .ref (46 + 4)]) rfl rfl ?_
                    refine wq_ia (j' := dz_c a1) (pc' := 172) rfl (ha_F_3 (Or.inl rfl)) rfl k4.1 k4.2 rfl ?_
                    refine wq_ri rfl rfl ?_
                    replace H := dz_sm H
                    exact H
                  · replace H := dz_if c21 H
                    refine wq_ts (x' := dz_c a2) (tt := 173) rfl rfl (by unfold mm_sw; rw [if_pos (by omega)]; rfl) ?_
                    refine wp_s (i := .iconst (-1)) (n := 1) (pc' := 174) (st' := [dz_I (-1)]) rfl rfl ?_
                    refine wq_ri rfl rfl ?_
                    replace H := dz_sm H
                    exact H
  · replace H := dz_if c2 H
    refine wp_s (i := .iconst (-1)) (n := 1) (pc' := 9) (st' := [dz_I (-1)]) rfl rfl ?_
    refine wq_ri rfl rfl ?_
    replace H := dz_sm H
    exact H
-- 72
def jf_O_peg (a1 : Int) (a2 : Int) (Z : dz_Z) : Option (Int × dz_Z) := Option.bind (jf_O_isGutter a1 Z) fun q1 => if q1 = false then (some ((-1), Z)) else (if dz_c a2 < 0 then (some ((-1), Z)) else (if dz_c a2 ≤ 2 then (if hz_isS (Z 0 3 0).toNat then if 0 ≤ dz_c a1 ∧ dz_c a1 < 5 then dz_a (dz_u Z ((Z 0 3 0).toNat) 0 (dz_c a1) a2) fun Z7 => some (Z ((Z 0 3 0).toNat) 0 (dz_c a1), Z7) else none else none) else (some ((-1), Z))))
set_option maxRecDepth 20000 in
theorem jw_O_peg {X : Option (List Int32)} {D : Nat} {Q : Option Value → mm_H → Prop} (a1 : Int) (a2 : Int) (Z : dz_Z) (H : dz_p (jf_O_peg a1 a2 Z) (fun q => Q (some (dz_I q.1)) (hz_0 q.2))) : mm_Wp X (D + 1) mm_r72 0 [some (.ref 0), some (dz_I a1), some (dz_I a2), none] [] (hz_0 Z) Q := by
  unfold jf_O_peg at H
  refine wp_s (i := .aload_n 0) (n := 1) (pc' := 1) (st' := [.ref 0]) rfl rfl ?_
  refine wp_s (i := .iload_n 1) (n := 1) (pc' := 2) (st' := [dz_I a1, .ref 0]) rfl rfl ?_
  refine wq_cv (Dq := D) (r' := mm_r103) (as0 := [dz_I a1]) (rest := []) (ls' := [some (.ref 0), some (dz_I a1)]) (pc' := 5) rfl rfl rfl rfl ho_O rfl rfl rfl ?_
  refine jw_O_isGutter (X := X) (D := D + 0) a1 Z (dz_pm (dz_bi H) (fun q1 H => ?_))
  show mm_Wp X (D + 1) mm_r72 5 [some (.ref 0), some (dz_I a1), some (dz_I a2), none] [dz_B q1] (hz_0 Z) Q
  refine wq_if (p := q1 = false) (tt := 17) (pc' := 8) rfl rfl (cb_eq) rfl (fun c2 => ?_) (fun c2 => ?_)
  · replace H := dz_it c2 H
    refine wp_s (i := .iconst (-1)) (n := 1) (pc' := 18) (st' := [dz_I (-1)]) rfl rfl ?_
    refine wq_ri rfl rfl ?_
    replace H := dz_sm H
    exact H
  · replace H := dz_if c2 H
    refine wp_s (i := .iload_n 2) (n := 1) (pc' := 9) (st' := [dz_I a2]) rfl rfl ?_
    refine wq_if (p := dz_c a2 < 0) (tt := 17) (pc' := 12) rfl rfl (cz_lt rfl) rfl (fun c3 => ?_) (fun c3 => ?_)
    · replace H := dz_it c3 H
      refine wp_s (i := .iconst (-1)) (n := 1) (pc' := 18) (st' := [dz_I (-1)]) rfl rfl ?_
      refine wq_ri rfl rfl ?_
      replace H := dz_sm H
      exact H
    · replace H := dz_if c3 H
      refine wp_s (i := .iload_n 2) (n := 1) (pc' := 13) (st' := [dz_I a2]) rfl rfl ?_
      refine wp_s (i := .iconst 2) (n := 1) (pc' := 14) (st' := [dz_I 2, dz_I a2]) rfl rfl ?_
      refine wq_ic (p := dz_c a2 ≤ 2) (tt := 19) (pc' := 17) rfl rfl (cq_le rfl dk_2) rfl (fun c4 => ?_) (fun c4 => ?_)
      · replace H := dz_it c4 H
        refine wp_s (i := .aload_n 0) (n := 1) (pc' := 20) (st' := [.ref 0]) rfl rfl ?_
        obtain ⟨k5, H⟩ := dz_ck H
        refine wq_gd (idx := 31) (pc' := 23) rfl rfl ho_O rfl rfl ?_
        refine wq_gr (idx := 140) (a := (Z 0 3 0).toNat + 1) (pc' := 26) rfl rfl (ho_S k5) rfl rfl ?_
        refine wp_s (i := .iload_n 1) (n := 1) (pc' := 27) (st' := [dz_I a1, .ref ((Z 0 3 0).toNat + 1)]) rfl rfl ?_
        obtain ⟨k6, H⟩ := dz_ck H
        refine wq_ia (j' := dz_c a1) (pc' := 28) rfl (ha_S_0 k5) rfl k6.1 k6.2 rfl ?_
        refine wq_st (k := 3) (i := .istore_n 3) (n := 1) (ls' := [some (.ref 0), some (dz_I a1), some (dz_I a2), some (dz_I (Z ((Z 0 3 0).toNat) 0 (dz_c a1)))]) (pc' := 29) rfl rfl rfl rfl rfl ?_
        refine wp_s (i := .aload_n 0) (n := 1) (pc' := 30) (st' := [.ref 0]) rfl rfl ?_
        refine wq_gd (idx := 31) (pc' := 33) rfl rfl ho_O rfl rfl ?_
        refine wq_gr (idx := 140) (a := (Z 0 3 0).toNat + 1) (pc' := 36) rfl rfl (ho_S k5) rfl rfl ?_
        refine wp_s (i := .iload_n 1) (n := 1) (pc' := 37) (st' := [dz_I a1, .ref ((Z 0 3 0).toNat + 1)]) rfl rfl ?_
        refine wp_s (i := .iload_n 2) (n := 1) (pc' := 38) (st' := [dz_I a2, dz_I a1, .ref ((Z 0 3 0).toNat + 1)]) rfl rfl ?_
        refine wq_is (j' := dz_c a1) (x := a2) (pc' := 39) rfl (ha_S_0 k5) rfl k6.1 k6.2 rfl (fun Z7 eZ7 => ?_)
        replace H := dz_le H Z7 eZ7
        clear eZ7
        refine wp_s (i := .iload_n 3) (n := 1) (pc' := 40) (st' := [dz_I (Z ((Z 0 3 0).toNat) 0 (dz_c a1))]) rfl rfl ?_
        refine wq_ri rfl rfl ?_
        replace H := dz_sm H
        exact H
      · replace H := dz_if c4 H
        refine wp_s (i := .iconst (-1)) (n := 1) (pc' := 18) (st' := [dz_I (-1)]) rfl rfl ?_
        refine wq_ri rfl rfl ?_
        replace H := dz_sm H
        exact H
-- 73
def jf_O_block (a1 : Int) (a2 : Int) (Z : dz_Z) : Option (Int × dz_Z) := Option.bind (jf_O_isGutter a1 Z) fun q1 => if q1 = true then (if hz_isS (Z 0 3 0).toNat then if 0 ≤ dz_c a1 ∧ dz_c a1 < 5 then if dz_c a2 = 0 then (dz_a (dz_u Z ((Z 0 3 0).toNat) 1 (dz_c a1) 0) fun Z6 => some (Z ((Z 0 3 0).toNat) 1 (dz_c a1), Z6)) else (dz_a (dz_u Z ((Z 0 3 0).toNat) 1 (dz_c a1) 1) fun Z7 => some (Z ((Z 0 3 0).toNat) 1 (dz_c a1), Z7)) else none else none) else (some ((-1), Z))
set_option maxRecDepth 20000 in
theorem jw_O_block {X : Option (List Int32)} {D : Nat} {Q : Option Value → mm_H → Prop} (a1 : Int) (a2 : Int) (Z : dz_Z) (H : dz_p (jf_O_block a1 a2 Z) (fun q => Q (some (dz_I q.1)) (hz_0 q.2))) : mm_Wp X (D + 1) mm_r73 0 [some (.ref 0), some (dz_I a1), some (dz_I a2), none] [] (hz_0 Z) Q := by
  unfold jf_O_block at H
  refine wp_s (i := .aload_n 0) (n := 1) (pc' := 1) (st' := [.ref 0]) rfl rfl ?_
  refine wp_s (i := .iload_n 1) (n := 1) (pc' := 2) (st' := [dz_I a1, .ref 0]) rfl rfl ?_
  refine wq_cv (Dq := D) (r' := mm_r103) (as0 := [dz_I a1]) (rest := []) (ls' := [some (.ref 0), some (dz_I a1)]) (pc' := 5) rfl rfl rfl rfl ho_O rfl rfl rfl ?_
  refine jw_O_isGutter (X := X) (D := D + 0) a1 Z (dz_pm (dz_bi H) (fun q1 H => ?_))
  show mm_Wp X (D + 1) mm_r73 5 [some (.ref 0), some (dz_I a1), some (dz_I a2), none] [dz_B q1] (hz_0 Z) Q
  refine wq_if (p := q1 = true) (tt := 10) (pc' := 8) rfl rfl (cb_ne) rfl (fun c2 => ?_) (fun c2 => ?_)
  · replace H := dz_it c2 H
    refine wp_s (i := .aload_n 0) (n := 1) (pc' := 11) (st' := [.ref 0]) rfl rfl ?_
    obtain ⟨k3, H⟩ := dz_ck H
    refine wq_gd (idx := 31) (pc' := 14) rfl rfl ho_O rfl rfl ?_
    refine wq_gr (idx := 143) (a := (Z 0 3 0).toNat + 2) (pc' := 17) rfl rfl (ho_S k3) rfl rfl ?_
    refine wp_s (i := .iload_n 1) (n := 1) (pc' := 18) (st' := [dz_I a1, .ref ((Z 0 3 0).toNat + 2)]) rfl rfl ?_
    obtain ⟨k4, H⟩ := dz_ck H
    refine wq_ia (j' := dz_c a1) (pc' := 19) rfl (ha_S_1 k3) rfl k4.1 k4.2 rfl ?_
    refine wq_st (k := 3) (i := .istore_n 3) (n := 1) (ls' := [some (.ref 0), some (dz_I a1), some (dz_I a2), some (dz_I (Z ((Z 0 3 0).toNat) 1 (dz_c a1)))]) (pc' := 20) rfl rfl rfl rfl rfl ?_
    refine wp_s (i := .aload_n 0) (n := 1) (pc' := 21) (st' := [.ref 0]) rfl rfl ?_
    refine wq_gd (idx := 31) (pc' := 24) rfl rfl ho_O rfl rfl ?_
    refine wq_gr (idx := 143) (a := (Z 0 3 0).toNat + 2) (pc' := 27) rfl rfl (ho_S k3) rfl rfl ?_
    refine wp_s (i := .iload_n 1) (n := 1) (pc' := 28) (st' := [dz_I a1, .ref ((Z 0 3 0).toNat + 2)]) rfl rfl ?_
    refine wp_s (i := .iload_n 2) (n := 1) (pc' := 29) (st' := [dz_I a2, dz_I a1, .ref ((Z 0 3 0).toNat + 2)]) rfl rfl ?_
    refine wq_if (p := dz_c a2 = 0) (tt := 36) (pc' := 32) rfl rfl (cz_eq rfl) rfl (fun c5 => ?_) (fun c5 => ?_)
    · replace H := dz_it c5 H
      refine wp_s (i := .iconst 0) (n := 1) (pc' := 37) (st' := [dz_I 0, dz_I a1, .ref ((Z 0 3 0).toNat + 2)]) rfl rfl ?_
      refine wq_is (j' := dz_c a1) (x := 0) (pc' := 38) rfl (ha_S_1 k3) rfl k4.1 k4.2 rfl (fun Z6 eZ6 => ?_)
      replace H := dz_le H Z6 eZ6
      clear eZ6
      refine wp_s (i := .iload_n 3) (n := 1) (pc' := 39) (st' := [dz_I (Z ((Z 0 3 0).toNat) 1 (dz_c a1))]) rfl rfl ?_
      refine wq_ri rfl rfl ?_
      replace H := dz_sm H
      exact H
    · replace H := dz_if c5 H
      refine wp_s (i := .iconst 1) (n := 1) (pc' := 33) (st' := [dz_I 1, dz_I a1, .ref ((Z 0 3 0).toNat + 2)]) rfl rfl ?_
      refine wp_s (i := .goto 4) (n := 3) (pc' := 37) (st' := [dz_I 1, dz_I a1, .ref ((Z 0 3 0).toNat + 2)]) rfl rfl ?_
      refine wq_is (j' := dz_c a1) (x := 1) (pc' := 38) rfl (ha_S_1 k3) rfl k4.1 k4.2 rfl (fun Z7 eZ7 => ?_)
      replace H := dz_le H Z7 eZ7
      clear eZ7
      refine wp_s (i := .iload_n 3) (n := 1) (pc' := 39) (st' := [dz_I (Z ((Z 0 3 0).toNat) 1 (dz_c a1))]) rfl rfl ?_
      refine wq_ri rfl rfl ?_
      replace H := dz_sm H
      exact H
  · replace H := dz_if c2 H
    refine wp_s (i := .iconst (-1)) (n := 1) (pc' := 9) (st' := [dz_I (-1)]) rfl rfl ?_
    refine wq_ri rfl rfl ?_
    replace H := dz_sm H
    exact H
-- 74
def jf_O_cup (a1 : Int) (a2 : Int) (Z : dz_Z) : Option (Int × dz_Z) := Option.bind (jf_O_isSpout a1 Z) fun q1 => if q1 = false then (some ((-1), Z)) else (if dz_c a2 = 0 then (if hz_isS (Z 0 3 0).toNat then if 0 ≤ dz_c a1 ∧ dz_c a1 < 8 then dz_a (dz_u Z ((Z 0 3 0).toNat) 2 (dz_c a1) a2) fun Z6 => Option.bind (jf_F_emptyCup 46 a1 Z6) fun q7 => some (Z ((Z 0 3 0).toNat) 2 (dz_c a1), q7) else none else none) else (if dz_c a2 = 5 then (if hz_isS (Z 0 3 0).toNat then if 0 ≤ dz_c a1 ∧ dz_c a1 < 8 then dz_a (dz_u Z ((Z 0 3 0).toNat) 2 (dz_c a1) a2) fun Z11 => Option.bind (jf_F_emptyCup 46 a1 Z11) fun q12 => some (Z ((Z 0 3 0).toNat) 2 (dz_c a1), q12) else none else none) else (some ((-1), Z))))
set_option maxRecDepth 20000 in
theorem jw_O_cup {X : Option (List Int32)} {D : Nat} {Q : Option Value → mm_H → Prop} (a1 : Int) (a2 : Int) (Z : dz_Z) (H : dz_p (jf_O_cup a1 a2 Z) (fun q => Q (some (dz_I q.1)) (hz_0 q.2))) : mm_Wp X (D + 1) mm_r74 0 [some (.ref 0), some (dz_I a1), some (dz_I a2), none] [] (hz_0 Z) Q := by
  unfold jf_O_cup at H
  refine wp_s (i := .aload_n 0) (n := 1) (pc' := 1) (st' := [.ref 0]) rfl rfl ?_
  refine wp_s (i := .iload_n 1) (n := 1) (pc' := 2) (st' := [dz_I a1, .ref 0]) rfl rfl ?_
  refine wq_cv (Dq := D) (r' := mm_r104) (as0 := [dz_I a1]) (rest := []) (ls' := [some (.ref 0), some (dz_I a1)]) (pc' := 5) rfl rfl rfl rfl ho_O rfl rfl rfl ?_
  refine jw_O_isSpout (X := X) (D := D + 0) a1 Z (dz_pm (dz_bi H) (fun q1 H => ?_))
  show mm_Wp X (D + 1) mm_r74 5 [some (.ref 0), some (dz_I a1), some (dz_I a2), none] [dz_B q1] (hz_0 Z) Q
  refine wq_if (p := q1 = false) (tt := 17) (pc' := 8) rfl rfl (cb_eq) rfl (fun c2 => ?_) (fun c2 => ?_)
  · replace H := dz_it c2 H
    refine wp_s (i := .iconst (-1)) (n := 1) (pc' := 18) (st' := [dz_I (-1)]) rfl rfl ?_
    refine wq_ri rfl rfl ?_
    replace H := dz_sm H
    exact H
  · replace H := dz_if c2 H
    refine wp_s (i := .iload_n 2) (n := 1) (pc' := 9) (st' := [dz_I a2]) rfl rfl ?_
    refine wq_if (p := dz_c a2 = 0) (tt := 19) (pc' := 12) rfl rfl (cz_eq rfl) rfl (fun c3 => ?_) (fun c3 => ?_)
    · replace H := dz_it c3 H
      refine wp_s (i := .aload_n 0) (n := 1) (pc' := 20) (st' := [.ref 0]) rfl rfl ?_
      obtain ⟨k4, H⟩ := dz_ck H
      refine wq_gd (idx := 31) (pc' := 23) rfl rfl ho_O rfl rfl ?_
      refine wq_gr (idx := 149) (a := (Z 0 3 0).toNat + 3) (pc' := 26) rfl rfl (ho_S k4) rfl rfl ?_
      refine wp_s (i := .iload_n 1) (n := 1) (pc' := 27) (st' := [dz_I a1, .ref ((Z 0 3 0).toNat + 3)]) rfl rfl ?_
      obtain ⟨k5, H⟩ := dz_ck H
      refine wq_ia (j' := dz_c a1) (pc' := 28) rfl (ha_S_2 k4) rfl k5.1 k5.2 rfl ?_
      refine wq_st (k := 3) (i := .istore_n 3) (n := 1) (ls' := [some (.ref 0), some (dz_I a1), some (dz_I a2), some (dz_I (Z ((Z 0 3 0).toNat) 2 (dz_c a1)))]) (pc' := 29) rfl rfl rfl rfl rfl ?_
      refine wp_s (i := .aload_n 0) (n := 1) (pc' := 30) (st' := [.ref 0]) rfl rfl ?_
      refine wq_gd (idx := 31) (pc' := 33) rfl rfl ho_O rfl rfl ?_
      refine wq_gr (idx := 149) (a := (Z 0 3 0).toNat + 3) (pc' := 36) rfl rfl (ho_S k4) rfl rfl ?_
      refine wp_s (i := .iload_n 1) (n := 1) (pc' := 37) (st' := [dz_I a1, .ref ((Z 0 3 0).toNat + 3)]) rfl rfl ?_
      refine wp_s (i := .iload_n 2) (n := 1) (pc' := 38) (st' := [dz_I a2, dz_I a1, .ref ((Z 0 3 0).toNat + 3)]) rfl rfl ?_
      refine wq_is (j' := dz_c a1) (x := a2) (pc' := 39) rfl (ha_S_2 k4) rfl k5.1 k5.2 rfl (fun Z6 eZ6 => ?_)
      replace H := dz_le H Z6 eZ6
      clear eZ6
      refine wp_s (i := .aload_n 0) (n := 1) (pc' := 40) (st' := [.ref 0]) rfl rfl ?_
      refine wq_gr (idx := 38) (a := 46) (pc' := 43) rfl rfl ho_O rfl rfl ?_
      refine wp_s (i := .iload_n 1) (n := 1) (pc' := 44) (st' := [dz_I a1, .ref 46]) rfl rfl ?_
      refine wq_cv (Dq := D) (r' := mm_r22) (as0 := [dz_I a1]) (rest := []) (ls' := [some (.ref 46), some (dz_I a1)]) (pc' := 47) rfl rfl rfl rfl (ho_F (Or.inl rfl)) rfl rfl rfl ?_
      refine jw_F_emptyCup (X := X) (D := D + 0) 46 (Or.inl rfl) a1 Z6 (dz_pm (dz_bi H) (fun q7 H => ?_))
      show mm_Wp X (D + 1) mm_r74 47 [some (.ref 0), some (dz_I a1), some (dz_I a2), some (dz_I (Z ((Z 0 3 0).toNat) 2 (dz_c a1)))] [] (hz_0 q7) Q
      refine wp_s (i := .iload_n 3) (n := 1) (pc' := 48) (st' := [dz_I (Z ((Z 0 3 0).toNat) 2 (dz_c a1))]) rfl rfl ?_
      refine wq_ri rfl rfl ?_
      replace H := dz_sm H
      exact H
    · replace H := dz_if c3 H
      refine wp_s (i := .iload_n 2) (n := 1) (pc' := 13) (st' := [dz_I a2]) rfl rfl ?_
      refine wp_s (i := .iconst 5) (n := 1) (pc' := 14) (st' := [dz_I 5, dz_I a2]) rfl rfl ?_
      refine wq_ic (p := dz_c a2 = 5) (tt := 19) (pc' := 17) rfl rfl (cq_eq rfl dk_5) rfl (fun c8 => ?_) (fun c8 => ?_)
      · replace H := dz_it c8 H
        refine wp_s (i := .aload_n 0) (n := 1) (pc' := 20) (st' := [.ref 0]) rfl rfl ?_
        obtain ⟨k9, H⟩ := dz_ck H
        refine wq_gd (idx := 31) (pc' := 23) rfl rfl ho_O rfl rfl ?_
        refine wq_gr (idx := 149) (a := (Z 0 3 0).toNat + 3) (pc' := 26) rfl rfl (ho_S k9) rfl rfl ?_
        refine wp_s (i := .iload_n 1) (n := 1) (pc' := 27) (st' := [dz_I a1, .ref ((Z 0 3 0).toNat + 3)]) rfl rfl ?_
        obtain ⟨k10, H⟩ := dz_ck H
        refine wq_ia (j' := dz_c a1) (pc' := 28) rfl (ha_S_2 k9) rfl k10.1 k10.2 rfl ?_
        refine wq_st (k := 3) (i := .istore_n 3) (n := 1) (ls' := [some (.ref 0), some (dz_I a1), some (dz_I a2), some (dz_I (Z ((Z 0 3 0).toNat) 2 (dz_c a1)))]) (pc' := 29) rfl rfl rfl rfl rfl ?_
        refine wp_s (i := .aload_n 0) (n := 1) (pc' := 30) (st' := [.ref 0]) rfl rfl ?_
        refine wq_gd (idx := 31) (pc' := 33) rfl rfl ho_O rfl rfl ?_
        refine wq_gr (idx := 149) (a := (Z 0 3 0).toNat + 3) (pc' := 36) rfl rfl (ho_S k9) rfl rfl ?_
        refine wp_s (i := .iload_n 1) (n := 1) (pc' := 37) (st' := [dz_I a1, .ref ((Z 0 3 0).toNat + 3)]) rfl rfl ?_
        refine wp_s (i := .iload_n 2) (n := 1) (pc' := 38) (st' := [dz_I a2, dz_I a1, .ref ((Z 0 3 0).toNat + 3)]) rfl rfl ?_
        refine wq_is (j' := dz_c a1) (x := a2) (pc' := 39) rfl (ha_S_2 k9) rfl k10.1 k10.2 rfl (fun Z11 eZ11 => ?_)
        replace H := dz_le H Z11 eZ11
        clear eZ11
        refine wp_s (i := .aload_n 0) (n := 1) (pc' := 40) (st' := [.ref 0]) rfl rfl ?_
        refine wq_gr (idx := 38) (a := 46) (pc' := 43) rfl rfl ho_O rfl rfl ?_
        refine wp_s (i := .iload_n 1) (n := 1) (pc' := 44) (st' := [dz_I a1, .ref 46]) rfl rfl ?_
        refine wq_cv (Dq := D) (r' := mm_r22) (as0 := [dz_I a1]) (rest := []) (ls' := [some (.ref 46), some (dz_I a1)]) (pc' := 47) rfl rfl rfl rfl (ho_F (Or.inl rfl)) rfl rfl rfl ?_
        refine jw_F_emptyCup (X := X) (D := D + 0) 46 (Or.inl rfl) a1 Z11 (dz_pm (dz_bi H) (fun q12 H => ?_))
        show mm_Wp X (D + 1) mm_r74 47 [some (.ref 0), some (dz_I a1), some (dz_I a2), some (dz_I (Z ((Z 0 3 0).toNat) 2 (dz_c a1)))] [] (hz_0 q12) Q
        refine wp_s (i := .iload_n 3) (n := 1) (pc' := 48) (st' := [dz_I (Z ((Z 0 3 0).toNat) 2 (dz_c a1))]) rfl rfl ?_
        refine wq_ri rfl rfl ?_
        replace H := dz_sm H
        exact H
      · replace H := dz_if c8 H
        refine wp_s (i := .iconst (-1)) (n := 1) (pc' := 18) (st' := [dz_I (-1)]) rfl rfl ?_
        refine wq_ri rfl rfl ?_
        replace H := dz_sm H
        exact H
-- 114
def jf_O_manySettings (Z : dz_Z) : Option (Int) := dz_lp (fun (s1 : Int × Int) => if hz_isP (Z 0 2 0).toNat then if dz_c (Z ((Z 0 2 0).toNat) 3 0) ≤ dz_c s1.2 then (some (Sum.inr s1.1)) else (some (Sum.inl (s1.1 * 3, s1.2 + 1))) else none) 5000 (1, 0)
set_option maxRecDepth 20000 in
theorem jw_O_manySettings {X : Option (List Int32)} {D : Nat} {Q : Option Value → mm_H → Prop} (Z : dz_Z) (H : dz_p (jf_O_manySettings Z) (fun q => Q (some (dz_I q)) (hz_0 Z))) : mm_Wp X D mm_r114 0 [some (.ref 0), none, none] [] (hz_0 Z) Q := by
  unfold jf_O_manySettings at H
  refine wp_s (i := .iconst 1) (n := 1) (pc' := 1) (st' := [dz_I 1]) rfl rfl ?_
  refine wq_st (k := 1) (i := .istore_n 1) (n := 1) (ls' := [some (.ref 0), some (dz_I 1), none]) (pc' := 2) rfl rfl rfl rfl rfl ?_
  refine wp_s (i := .iconst 0) (n := 1) (pc' := 3) (st' := [dz_I 0]) rfl rfl ?_
  refine wq_st (k := 2) (i := .istore_n 2) (n := 1) (ls' := [some (.ref 0), some (dz_I 1), some (dz_I 0)]) (pc' := 4) rfl rfl rfl rfl rfl ?_
  refine dz_lpi (P := fun (s1 : Int × Int) => mm_Wp X D mm_r114 4 [some (.ref 0), some (dz_I s1.1), some (dz_I s1.2)] [] (hz_0 Z) Q) (fun s1 H => ?_) 5000 (1, 0) H
  refine wp_s (i := .iload_n 2) (n := 1) (pc' := 5) (st' := [dz_I s1.2]) rfl rfl ?_
  refine wp_s (i := .aload_n 0) (n := 1) (pc' := 6) (st' := [.ref 0, dz_I s1.2]) rfl rfl ?_
  obtain ⟨k2, H⟩ := dz_ck H
  refine wq_gd (idx := 24) (pc' := 9) rfl rfl ho_O rfl rfl ?_
  refine wq_gi (idx := 111) (pc' := 12) rfl rfl (ho_P k2) rfl rfl ?_
  refine wq_ic (p := dz_c (Z ((Z 0 2 0).toNat) 3 0) ≤ dz_c s1.2) (tt := 25) (pc' := 15) rfl rfl (cq_ge rfl rfl) rfl (fun c3 => ?_) (fun c3 => ?_)
  · replace H := dz_it c3 H
    refine wp_s (i := .iload_n 1) (n := 1) (pc' := 26) (st' := [dz_I s1.1]) rfl rfl ?_
    refine wq_ri rfl rfl ?_
    replace H := dz_out H
    replace H := dz_sm H
    exact H
  · replace H := dz_if c3 H
    refine wp_s (i := .iload_n 1) (n := 1) (pc' := 16) (st' := [dz_I s1.1]) rfl rfl ?_
    refine wp_s (i := .iconst 3) (n := 1) (pc' := 17) (st' := [dz_I 3, dz_I s1.1]) rfl rfl ?_
    refine wq_2 (i := .imul) (z := s1.1 * 3) (pc' := 18) rfl rfl (op_mul _ _) rfl ?_
    refine wq_st (k := 1) (i := .istore_n 1) (n := 1) (ls' := [some (.ref 0), some (dz_I (s1.1 * 3)), some (dz_I s1.2)]) (pc' := 19) rfl rfl rfl rfl rfl ?_
    refine wq_inc (k := 2) (d := 1) (x := s1.2) (ls' := [some (.ref 0), some (dz_I (s1.1 * 3)), some (dz_I (s1.2 + 1))]) (pc' := 22) rfl rfl rfl rfl ?_
    refine wp_s (i := .goto (-18)) (n := 3) (pc' := 4) (st' := []) rfl rfl ?_
    replace H := dz_back H
    exact H
-- 75
def jf_O_settings (a1 : Int) (Z : dz_Z) : Option (Int × dz_Z) := if dz_c a1 < 0 then (some ((-1), Z)) else (Option.bind (jf_O_manySettings Z) fun q2 => if dz_c a1 < dz_c q2 then (if hz_isS (Z 0 3 0).toNat then if hz_isP (Z 0 2 0).toNat then Option.bind (jf_S_pegsAsNumber ((Z 0 3 0).toNat) (Z ((Z 0 2 0).toNat) 3 0) Z) fun q6 => Option.bind (jf_S_setPegs ((Z 0 3 0).toNat) (Z ((Z 0 2 0).toNat) 3 0) a1 Z) fun q7 => some (q6, q7) else none else none) else (some ((-1), Z)))
set_option maxRecDepth 20000 in
theorem jw_O_settings {X : Option (List Int32)} {D : Nat} {Q : Option Value → mm_H → Prop} (a1 : Int) (Z : dz_Z) (H : dz_p (jf_O_settings a1 Z) (fun q => Q (some (dz_I q.1)) (hz_0 q.2))) : mm_Wp X (D + 1) mm_r75 0 [some (.ref 0), some (dz_I a1), none] [] (hz_0 Z) Q := by
  unfold jf_O_settings at H
  refine wp_s (i := .iload_n 1) (n := 1) (pc' := 1) (st' := [dz_I a1]) rfl rfl ?_
  refine wq_if (p := dz_c a1 < 0) (tt := 12) (pc' := 4) rfl rfl (cz_lt rfl) rfl (fun c1 => ?_) (fun c1 => ?_)
  · replace H := dz_it c1 H
    refine wp_s (i := .iconst (-1)) (n := 1) (pc' := 13) (st' := [dz_I (-1)]) rfl rfl ?_
    refine wq_ri rfl rfl ?_
    replace H := dz_sm H
    exact H
  · replace H := dz_if c1 H
    refine wp_s (i := .iload_n 1) (n := 1) (pc' := 5) (st' := [dz_I a1]) rfl rfl ?_
    refine wp_s (i := .aload_n 0) (n := 1) (pc' := 6) (st' := [.ref 0, dz_I a1]) rfl rfl ?_
    refine wq_cv (Dq := D) (r' := mm_r114) (as0 := []) (rest := [dz_I a1]) (ls' := [some (.ref 0), none, none]) (pc' := 9) rfl rfl rfl rfl ho_O rfl rfl rfl ?_
    refine jw_O_manySettings (X := X) (D := D + 0) Z (dz_pm (dz_bi H) (fun q2 H => ?_))
    show mm_Wp X (D + 1) mm_r75 9 [some (.ref 0), some (dz_I a1), none] [dz_I q2, dz_I a1] (hz_0 Z) Q
    refine wq_ic (p := dz_c a1 < dz_c q2) (tt := 14) (pc' := 12) rfl rfl (cq_lt rfl rfl) rfl (fun c3 => ?_) (fun c3 => ?_)
    · replace H := dz_it c3 H
      refine wp_s (i := .aload_n 0) (n := 1) (pc' := 15) (st' := [.ref 0]) rfl rfl ?_
      obtain ⟨k4, H⟩ := dz_ck H
      refine wq_gd (idx := 31) (pc' := 18) rfl rfl ho_O rfl rfl ?_
      refine wp_s (i := .aload_n 0) (n := 1) (pc' := 19) (st' := [.ref 0, .ref ((Z 0 3 0).toNat)]) rfl rfl ?_
      obtain ⟨k5, H⟩ := dz_ck H
      refine wq_gd (idx := 24) (pc' := 22) rfl rfl ho_O rfl rfl ?_
      refine wq_gi (idx := 111) (pc' := 25) rfl rfl (ho_P k5) rfl rfl ?_
      refine wq_cv (Dq := D) (r' := mm_r55) (as0 := [dz_I (Z ((Z 0 2 0).toNat) 3 0)]) (rest := []) (ls' := [some (.ref ((Z 0 3 0).toNat)), some (dz_I (Z ((Z 0 2 0).toNat) 3 0)), none, none]) (pc' := 28) rfl rfl rfl rfl (ho_S k4) rfl rfl rfl ?_
      refine jw_S_pegsAsNumber (X := X) (D := D + 0) ((Z 0 3 0).toNat) k4 (Z ((Z 0 2 0).toNat) 3 0) Z (dz_pm (dz_bi H) (fun q6 H => ?_))
      show mm_Wp X (D + 1) mm_r75 28 [some (.ref 0), some (dz_I a1), none] [dz_I q6] (hz_0 Z) Q
      refine wq_st (k := 2) (i := .istore_n 2) (n := 1) (ls' := [some (.ref 0), some (dz_I a1), some (dz_I q6)]) (pc' := 29) rfl rfl rfl rfl rfl ?_
      refine wp_s (i := .aload_n 0) (n := 1) (pc' := 30) (st' := [.ref 0]) rfl rfl ?_
      refine wq_gd (idx := 31) (pc' := 33) rfl rfl ho_O rfl rfl ?_
      refine wp_s (i := .aload_n 0) (n := 1) (pc' := 34) (st' := [.ref 0, .ref ((Z 0 3 0).toNat)]) rfl rfl ?_
      refine wq_gd (idx := 24) (pc' := 37) rfl rfl ho_O rfl rfl ?_
      refine wq_gi (idx := 111) (pc' := 40) rfl rfl (ho_P k5) rfl rfl ?_
      refine wp_s (i := .iload_n 1) (n := 1) (pc' := 41) (st' := [dz_I a1, dz_I (Z ((Z 0 2 0).toNat) 3 0), .ref ((Z 0 3 0).toNat)]) rfl rfl ?_
      refine wq_cv (Dq := D) (r' := mm_r56) (as0 := [dz_I (Z ((Z 0 2 0).toNat) 3 0), dz_I a1]) (rest := []) (ls' := [some (.ref ((Z 0 3 0).toNat)), some (dz_I (Z ((Z 0 2 0).toNat) 3 0)), some (dz_I a1), none, none]) (pc' := 44) rfl rfl rfl rfl (ho_S k4) rfl rfl rfl ?_
      refine jw_S_setPegs (X := X) (D := D + 0) ((Z 0 3 0).toNat) k4 (Z ((Z 0 2 0).toNat) 3 0) a1 Z (dz_pm (dz_bi H) (fun q7 H => ?_))
      show mm_Wp X (D + 1) mm_r75 44 [some (.ref 0), some (dz_I a1), some (dz_I q6)] [] (hz_0 q7) Q
      refine wp_s (i := .iload_n 2) (n := 1) (pc' := 45) (st' := [dz_I q6]) rfl rfl ?_
      refine wq_ri rfl rfl ?_
      replace H := dz_sm H
      exact H
    · replace H := dz_if c3 H
      refine wp_s (i := .iconst (-1)) (n := 1) (pc' := 13) (st' := [dz_I (-1)]) rfl rfl ?_
      refine wq_ri rfl rfl ?_
      replace H := dz_sm H
      exact H
-- 109
def jf_O_isRain (a1 : Int) : Option (Bool) := if dz_c a1 < 0 then (some false) else (if 9 < dz_c a1 then (some false) else (some true))
set_option maxRecDepth 20000 in
theorem jw_O_isRain {X : Option (List Int32)} {D : Nat} {Q : Option Value → mm_H → Prop} (a1 : Int) (Z : dz_Z) (H : dz_p (jf_O_isRain a1) (fun q => Q (some (dz_B q)) (hz_0 Z))) : mm_Wp X D mm_r109 0 [some (dz_I a1)] [] (hz_0 Z) Q := by
  unfold jf_O_isRain at H
  refine wp_s (i := .iload_n 0) (n := 1) (pc' := 1) (st' := [dz_I a1]) rfl rfl ?_
  refine wq_if (p := dz_c a1 < 0) (tt := 14) (pc' := 4) rfl rfl (cz_lt rfl) rfl (fun c1 => ?_) (fun c1 => ?_)
  · replace H := dz_it c1 H
    refine wp_s (i := .iconst 0) (n := 1) (pc' := 15) (st' := [dz_I 0]) rfl rfl ?_
    refine wq_rf rfl rfl ?_
    replace H := dz_sm H
    exact H
  · replace H := dz_if c1 H
    refine wp_s (i := .iload_n 0) (n := 1) (pc' := 5) (st' := [dz_I a1]) rfl rfl ?_
    refine wp_s (i := .bipush 9) (n := 2) (pc' := 7) (st' := [dz_I 9, dz_I a1]) rfl rfl ?_
    refine wq_ic (p := 9 < dz_c a1) (tt := 14) (pc' := 10) rfl rfl (cq_gt rfl dk_9) rfl (fun c2 => ?_) (fun c2 => ?_)
    · replace H := dz_it c2 H
      refine wp_s (i := .iconst 0) (n := 1) (pc' := 15) (st' := [dz_I 0]) rfl rfl ?_
      refine wq_rf rfl rfl ?_
      replace H := dz_sm H
      exact H
    · replace H := dz_if c2 H
      refine wp_s (i := .iconst 1) (n := 1) (pc' := 11) (st' := [dz_I 1]) rfl rfl ?_
      refine wp_s (i := .goto 4) (n := 3) (pc' := 15) (st' := [dz_I 1]) rfl rfl ?_
      refine wq_rt rfl rfl ?_
      replace H := dz_sm H
      exact H
end mg_25m05
section mg_25m06
-- 76
def jf_O_rain (a1 : Int) (Z : dz_Z) : Option (Int × dz_Z) := Option.bind (jf_O_isRain a1) fun q1 => if q1 = true then (if hz_isP (Z 0 2 0).toNat then if hz_isS (Z 0 3 0).toNat then Option.bind (jf_F_passSecond 46 ((Z 0 2 0).toNat) ((Z 0 3 0).toNat) a1 Z) fun q5 => some (q5.1, q5.2) else none else none) else (some ((-1), Z))
set_option maxRecDepth 20000 in
theorem jw_O_rain {X : Option (List Int32)} {D : Nat} {Q : Option Value → mm_H → Prop} (a1 : Int) (Z : dz_Z) (H : dz_p (jf_O_rain a1 Z) (fun q => Q (some (dz_I q.1)) (hz_0 q.2))) : mm_Wp X (D + 4) mm_r76 0 [some (.ref 0), some (dz_I a1)] [] (hz_0 Z) Q := by
  unfold jf_O_rain at H
  refine wp_s (i := .iload_n 1) (n := 1) (pc' := 1) (st' := [dz_I a1]) rfl rfl ?_
  refine wq_cs (Dq := (D + 3)) (r' := mm_r109) (as0 := [dz_I a1]) (rest := []) (ls' := [some (dz_I a1)]) (pc' := 4) rfl rfl (by decide) rfl rfl rfl rfl rfl ?_
  refine jw_O_isRain (X := X) (D := D + 3) a1 Z (dz_pm (dz_bi H) (fun q1 H => ?_))
  show mm_Wp X (D + 4) mm_r76 4 [some (.ref 0), some (dz_I a1)] [dz_B q1] (hz_0 Z) Q
  refine wq_if (p := q1 = true) (tt := 9) (pc' := 7) rfl rfl (cb_ne) rfl (fun c2 => ?_) (fun c2 => ?_)
  · replace H := dz_it c2 H
    refine wp_s (i := .aload_n 0) (n := 1) (pc' := 10) (st' := [.ref 0]) rfl rfl ?_
    refine wq_gr (idx := 38) (a := 46) (pc' := 13) rfl rfl ho_O rfl rfl ?_
    refine wp_s (i := .aload_n 0) (n := 1) (pc' := 14) (st' := [.ref 0, .ref 46]) rfl rfl ?_
    obtain ⟨k3, H⟩ := dz_ck H
    refine wq_gd (idx := 24) (pc' := 17) rfl rfl ho_O rfl rfl ?_
    refine wp_s (i := .aload_n 0) (n := 1) (pc' := 18) (st' := [.ref 0, .ref ((Z 0 2 0).toNat), .ref 46]) rfl rfl ?_
    obtain ⟨k4, H⟩ := dz_ck H
    refine wq_gd (idx := 31) (pc' := 21) rfl rfl ho_O rfl rfl ?_
    refine wp_s (i := .iload_n 1) (n := 1) (pc' := 22) (st' := [dz_I a1, .ref ((Z 0 3 0).toNat), .ref ((Z 0 2 0).toNat), .ref 46]) rfl rfl ?_
    refine wq_cv (Dq := (D + 3)) (r' := mm_r12) (as0 := [.ref ((Z 0 2 0).toNat), .ref ((Z 0 3 0).toNat), dz_I a1]) (rest := []) (ls' := [some (.ref 46), some (.ref ((Z 0 2 0).toNat)), some (.ref ((Z 0 3 0).toNat)), some (dz_I a1), none]) (pc' := 25) rfl rfl rfl rfl (ho_F (Or.inl rfl)) rfl rfl rfl ?_
    refine jw_F_passSecond (X := X) (D := D + 0) 46 (Or.inl rfl) ((Z 0 2 0).toNat) k3 ((Z 0 3 0).toNat) k4 a1 Z (dz_pm (dz_bi H) (fun q5 H => ?_))
    show mm_Wp X (D + 4) mm_r76 25 [some (.ref 0), some (dz_I a1)] [dz_I q5.1] (hz_0 q5.2) Q
    refine wq_ri rfl rfl ?_
    replace H := dz_sm H
    exact H
  · replace H := dz_if c2 H
    refine wp_s (i := .iconst (-1)) (n := 1) (pc' := 8) (st' := [dz_I (-1)]) rfl rfl ?_
    refine wq_ri rfl rfl ?_
    replace H := dz_sm H
    exact H
-- 77
def jf_O_dry (Z : dz_Z) : Option (Int × dz_Z) := Option.bind (jf_F_dryUp 46 Z) fun q1 => some (Z 46 5 0, q1)
set_option maxRecDepth 20000 in
theorem jw_O_dry {X : Option (List Int32)} {D : Nat} {Q : Option Value → mm_H → Prop} (Z : dz_Z) (H : dz_p (jf_O_dry Z) (fun q => Q (some (dz_I q.1)) (hz_0 q.2))) : mm_Wp X (D + 2) mm_r77 0 [some (.ref 0), none] [] (hz_0 Z) Q := by
  unfold jf_O_dry at H
  refine wp_s (i := .aload_n 0) (n := 1) (pc' := 1) (st' := [.ref 0]) rfl rfl ?_
  refine wq_gr (idx := 38) (a := 46) (pc' := 4) rfl rfl ho_O rfl rfl ?_
  refine wq_gi (idx := 201) (pc' := 7) rfl rfl (ho_F (Or.inl rfl)) rfl rfl ?_
  refine wq_st (k := 1) (i := .istore_n 1) (n := 1) (ls' := [some (.ref 0), some (dz_I (Z 46 5 0))]) (pc' := 8) rfl rfl rfl rfl rfl ?_
  refine wp_s (i := .aload_n 0) (n := 1) (pc' := 9) (st' := [.ref 0]) rfl rfl ?_
  refine wq_gr (idx := 38) (a := 46) (pc' := 12) rfl rfl ho_O rfl rfl ?_
  refine wq_cv (Dq := (D + 1)) (r' := mm_r10) (as0 := []) (rest := []) (ls' := [some (.ref 46)]) (pc' := 15) rfl rfl rfl rfl (ho_F (Or.inl rfl)) rfl rfl rfl ?_
  refine jw_F_dryUp (X := X) (D := D + 0) 46 (Or.inl rfl) Z (dz_pm (dz_bi H) (fun q1 H => ?_))
  show mm_Wp X (D + 2) mm_r77 15 [some (.ref 0), some (dz_I (Z 46 5 0))] [] (hz_0 q1) Q
  refine wp_s (i := .iload_n 1) (n := 1) (pc' := 16) (st' := [dz_I (Z 46 5 0)]) rfl rfl ?_
  refine wq_ri rfl rfl ?_
  replace H := dz_sm H
  exact H
-- 111
def jf_O_sum (a1b a1f a1n : Nat) (Z : dz_Z) : Option (Int) := dz_lp (fun (s1 : Int × Int) => if dz_c (a1n : Int) ≤ dz_c s1.2 then (some (Sum.inr s1.1)) else (if 0 ≤ (dz_c s1.2 : Int) ∧ (dz_c s1.2 : Int) < (a1n : Int) then some (Sum.inl (s1.1 + (Z a1b a1f (dz_c s1.2)), s1.2 + 1)) else none)) 5000 (0, 0)
set_option maxRecDepth 20000 in
theorem jw_O_sum {X : Option (List Int32)} {D : Nat} {Q : Option Value → mm_H → Prop} (a1c a1b a1f a1n : Nat) (ha1 : hz_t[a1c]? = some (.inl (0, a1b, a1f, a1n))) (Z : dz_Z) (H : dz_p (jf_O_sum a1b a1f a1n Z) (fun q => Q (some (dz_I q)) (hz_0 Z))) : mm_Wp X D mm_r111 0 [some (.ref a1c), none, none, none, none, none] [] (hz_0 Z) Q := by
  unfold jf_O_sum at H
  refine wp_s (i := .iconst 0) (n := 1) (pc' := 1) (st' := [dz_I 0]) rfl rfl ?_
  refine wq_st (k := 1) (i := .istore_n 1) (n := 1) (ls' := [some (.ref a1c), some (dz_I 0), none, none, none, none]) (pc' := 2) rfl rfl rfl rfl rfl ?_
  refine wp_s (i := .aload_n 0) (n := 1) (pc' := 3) (st' := [.ref a1c]) rfl rfl ?_
  refine wp_s (i := .astore_n 2) (n := 1) (pc' := 4) (ls' := [some (.ref a1c), some (dz_I 0), some (.ref a1c), none, none, none]) (st' := []) rfl rfl ?_
  refine wp_s (i := .aload_n 2) (n := 1) (pc' := 5) (st' := [.ref a1c]) rfl rfl ?_
  refine wq_al (pc' := 6) rfl (by decide) ha1 rfl ?_
  refine wq_st (k := 3) (i := .istore_n 3) (n := 1) (ls' := [some (.ref a1c), some (dz_I 0), some (.ref a1c), some (dz_I (a1n : Int)), none, none]) (pc' := 7) rfl rfl rfl rfl rfl ?_
  refine wp_s (i := .iconst 0) (n := 1) (pc' := 8) (st' := [dz_I 0]) rfl rfl ?_
  refine wq_st (k := 4) (i := .istore 4) (n := 2) (ls' := [some (.ref a1c), some (dz_I 0), some (.ref a1c), some (dz_I (a1n : Int)), some (dz_I 0), none]) (pc' := 10) rfl rfl rfl rfl rfl ?_
  refine dz_lpi (P := fun (s1 : Int × Int) => ∀ (u2 : Option Int32), mm_Wp X D mm_r111 10 [some (.ref a1c), some (dz_I s1.1), some (.ref a1c), some (dz_I (a1n : Int)), some (dz_I s1.2), Option.map Value.int u2] [] (hz_0 Z) Q) (fun s1 H => ?_) 5000 (0, 0) H none
  intro u2
  refine wp_s (i := .iload 4) (n := 2) (pc' := 12) (st' := [dz_I s1.2]) rfl rfl ?_
  refine wp_s (i := .iload_n 3) (n := 1) (pc' := 13) (st' := [dz_I (a1n : Int), dz_I s1.2]) rfl rfl ?_
  refine wq_ic (p := dz_c (a1n : Int) ≤ dz_c s1.2) (tt := 33) (pc' := 16) rfl rfl (cq_ge rfl rfl) rfl (fun c3 => ?_) (fun c3 => ?_)
  · replace H := dz_it c3 H
    refine wp_s (i := .iload_n 1) (n := 1) (pc' := 34) (st' := [dz_I s1.1]) rfl rfl ?_
    refine wq_ri rfl rfl ?_
    replace H := dz_out H
    replace H := dz_sm H
    exact H
  · replace H := dz_if c3 H
    refine wp_s (i := .aload_n 2) (n := 1) (pc' := 17) (st' := [.ref a1c]) rfl rfl ?_
    refine wp_s (i := .iload 4) (n := 2) (pc' := 19) (st' := [dz_I s1.2, .ref a1c]) rfl rfl ?_
    obtain ⟨k4, H⟩ := dz_ck H
    refine wq_ia (j' := dz_c s1.2) (pc' := 20) rfl ha1 rfl k4.1 k4.2 rfl ?_
    refine wq_st (k := 5) (i := .istore 5) (n := 2) (ls' := [some (.ref a1c), some (dz_I s1.1), some (.ref a1c), some (dz_I (a1n : Int)), some (dz_I s1.2), some (dz_I (Z a1b a1f (dz_c s1.2)))]) (pc' := 22) rfl rfl rfl rfl rfl ?_
    refine wp_s (i := .iload_n 1) (n := 1) (pc' := 23) (st' := [dz_I s1.1]) rfl rfl ?_
    refine wp_s (i := .iload 5) (n := 2) (pc' := 25) (st' := [dz_I (Z a1b a1f (dz_c s1.2)), dz_I s1.1]) rfl rfl ?_
    refine wq_2 (i := .iadd) (z := s1.1 + (Z a1b a1f (dz_c s1.2))) (pc' := 26) rfl rfl (op_add _ _) rfl ?_
    refine wq_st (k := 1) (i := .istore_n 1) (n := 1) (ls' := [some (.ref a1c), some (dz_I (s1.1 + (Z a1b a1f (dz_c s1.2)))), some (.ref a1c), some (dz_I (a1n : Int)), some (dz_I s1.2), some (dz_I (Z a1b a1f (dz_c s1.2)))]) (pc' := 27) rfl rfl rfl rfl rfl ?_
    refine wq_inc (k := 4) (d := 1) (x := s1.2) (ls' := [some (.ref a1c), some (dz_I (s1.1 + (Z a1b a1f (dz_c s1.2)))), some (.ref a1c), some (dz_I (a1n : Int)), some (dz_I (s1.2 + 1)), some (dz_I (Z a1b a1f (dz_c s1.2)))]) (pc' := 30) rfl rfl rfl rfl ?_
    refine wp_s (i := .goto (-20)) (n := 3) (pc' := 10) (st' := []) rfl rfl ?_
    replace H := dz_back H
    exact H (some (Int32.ofInt (Z a1b a1f (dz_c s1.2))))
-- 78
def jf_O_water (a1 : Int) (Z : dz_Z) : Option (Int) := if dz_c a1 = 0 then (some (Z 46 5 0)) else (if dz_c a1 = 1 then (some (Z 46 6 0)) else (if dz_c a1 = 2 then (some (Z 46 7 0)) else (if dz_c a1 = 3 then (Option.bind (jf_O_sum 46 0 8 Z) fun q5 => some q5) else (if dz_c a1 = 4 then (Option.bind (jf_O_sum 46 3 8 Z) fun q7 => some q7) else (if dz_c a1 = 5 then (some (Z 46 8 0)) else (some (-1)))))))
set_option maxRecDepth 20000 in
theorem jw_O_water {X : Option (List Int32)} {D : Nat} {Q : Option Value → mm_H → Prop} (a1 : Int) (Z : dz_Z) (H : dz_p (jf_O_water a1 Z) (fun q => Q (some (dz_I q)) (hz_0 Z))) : mm_Wp X (D + 1) mm_r78 0 [some (.ref 0), some (dz_I a1)] [] (hz_0 Z) Q := by
  unfold jf_O_water at H
  refine wp_s (i := .iload_n 1) (n := 1) (pc' := 1) (st' := [dz_I a1]) rfl rfl ?_
  by_cases c1 : dz_c a1 = 0
  · replace H := dz_it c1 H
    refine wq_ts (x' := dz_c a1) (tt := 40) rfl rfl (by rw [c1]; rfl) ?_
    refine wp_s (i := .aload_n 0) (n := 1) (pc' := 41) (st' := [.ref 0]) rfl rfl ?_
    refine wq_gr (idx := 38) (a := 46) (pc' := 44) rfl rfl ho_O rfl rfl ?_
    refine wq_gi (idx := 201) (pc' := 47) rfl rfl (ho_F (Or.inl rfl)) rfl rfl ?_
    refine wq_ri rfl rfl ?_
    replace H := dz_sm H
    exact H
  · replace H := dz_if c1 H
    by_cases c2 : dz_c a1 = 1
    · replace H := dz_it c2 H
      refine wq_ts (x' := dz_c a1) (tt := 48) rfl rfl (by rw [c2]; rfl) ?_
      refine wp_s (i := .aload_n 0) (n := 1) (pc' := 49) (st' := [.ref 0]) rfl rfl ?_
      refine wq_gr (idx := 38) (a := 46) (pc' := 52) rfl rfl ho_O rfl rfl ?_
      refine wq_gi (idx := 204) (pc' := 55) rfl rfl (ho_F (Or.inl rfl)) rfl rfl ?_
      refine wq_ri rfl rfl ?_
      replace H := dz_sm H
      exact H
    · replace H := dz_if c2 H
      by_cases c3 : dz_c a1 = 2
      · replace H := dz_it c3 H
        refine wq_ts (x' := dz_c a1) (tt := 56) rfl rfl (by rw [c3]; rfl) ?_
        refine wp_s (i := .aload_n 0) (n := 1) (pc' := 57) (st' := [.ref 0]) rfl rfl ?_
        refine wq_gr (idx := 38) (a := 46) (pc' := 60) rfl rfl ho_O rfl rfl ?_
        refine wq_gi (idx := 207) (pc' := 63) rfl rfl (ho_F (Or.inl rfl)) rfl rfl ?_
        refine wq_ri rfl rfl ?_
        replace H := dz_sm H
        exact H
      · replace H := dz_if c3 H
        by_cases c4 : dz_c a1 = 3
        · replace H := dz_it c4 H
          refine wq_ts (x' := dz_c a1) (tt := 64) rfl rfl (by rw [c4]; rfl) ?_
          refine wp_s (i := .aload_n 0) (n := 1) (pc' := 65) (st' := [.ref 0]) rfl rfl ?_
          refine wq_gr (idx := 38) (a := 46) (pc' := 68) rfl rfl ho_O rfl rfl ?_
          refine wq_gr (idx := 164) (a := 46 + 1) (pc' := 71) rfl rfl (ho_F (Or.inl rfl)) rfl rfl ?_
          refine wq_cs (Dq := D) (r' := mm_r111) (as0 := [.ref (46 + 1)]) (rest := []) (ls' := [some (.ref (46 + 1)), none, none, none, none, none]) (pc' := 74) rfl rfl (by decide) rfl rfl rfl rfl rfl ?_
          refine jw_O_sum (X := X) (D := D + 0) (46 + 1) 46 0 8 (ha_F_0 (Or.inl rfl)) Z (dz_pm (dz_bi H) (fun q5 H => ?_))
          show mm_Wp X (D + 1) mm_r78 74 [some (.ref 0), some (dz_I a1)] [dz_I q5] (hz_0 Z) Q
          refine wq_ri rfl rfl ?_
          replace H := dz_sm H
          exact H
        · replace H := dz_if c4 H
          by_cases c6 : dz_c a1 = 4
          · replace H := dz_it c6 H
            refine wq_ts (x' := dz_c a1) (tt := 75) rfl rfl (by rw [c6]; rfl) ?_
            refine wp_s (i := .aload_n 0) (n := 1) (pc' := 76) (st' := [.ref 0]) rfl rfl ?_
            refine wq_gr (idx := 38) (a := 46) (pc' := 79) rfl rfl ho_O rfl rfl ?_
            refine wq_gr (idx := 175) (a := 46 + 4) (pc' := 82) rfl rfl (ho_F (Or.inl rfl)) rfl rfl ?_
            refine wq_cs (Dq := D) (r' := mm_r111) (as0 := [.ref (46 + 4)]) (rest := []) (ls' := [some (.ref (46 + 4)), none, none, none, none, none]) (pc' := 85) rfl rfl (by decide) rfl rfl rfl rfl rfl ?_
            refine jw_O_sum (X := X) (D := D + 0) (46 + 4) 46 3 8 (ha_F_3 (Or.inl rfl)) Z (dz_pm (dz_bi H) (fun q7 H => ?_))
            show mm_Wp X (D + 1) mm_r78 85 [some (.ref 0), some (dz_I a1)] [dz_I q7] (hz_0 Z) Q
            refine wq_ri rfl rfl ?_
            replace H := dz_sm H
            exact H
          · replace H := dz_if c6 H
            by_cases c8 : dz_c a1 = 5
            · replace H := dz_it c8 H
              refine wq_ts (x' := dz_c a1) (tt := 86) rfl rfl (by rw [c8]; rfl) ?_
              refine wp_s (i := .aload_n 0) (n := 1) (pc' := 87) (st' := [.ref 0]) rfl rfl ?_
              refine wq_gr (idx := 38) (a := 46) (pc' := 90) rfl rfl ho_O rfl rfl ?_
              refine wq_gi (idx := 214) (pc' := 93) rfl rfl (ho_F (Or.inl rfl)) rfl rfl ?_
              refine wq_ri rfl rfl ?_
              replace H := dz_sm H
              exact H
            · replace H := dz_if c8 H
              refine wq_ts (x' := dz_c a1) (tt := 94) rfl rfl (by unfold mm_sw; rw [if_pos (by omega)]; rfl) ?_
              refine wp_s (i := .iconst (-1)) (n := 1) (pc' := 95) (st' := [dz_I (-1)]) rfl rfl ?_
              refine wq_ri rfl rfl ?_
              replace H := dz_sm H
              exact H
-- 79
def jf_O_loud (a1 : Int) (Z : dz_Z) : Option (Int) := Option.bind (jf_O_isSpout a1 Z) fun q1 => if q1 = false then (some (-1)) else (if 0 ≤ dz_c a1 ∧ dz_c a1 < 8 then some (Z 46 4 (dz_c a1)) else none)
set_option maxRecDepth 20000 in
theorem jw_O_loud {X : Option (List Int32)} {D : Nat} {Q : Option Value → mm_H → Prop} (a1 : Int) (Z : dz_Z) (H : dz_p (jf_O_loud a1 Z) (fun q => Q (some (dz_I q)) (hz_0 Z))) : mm_Wp X (D + 1) mm_r79 0 [some (.ref 0), some (dz_I a1)] [] (hz_0 Z) Q := by
  unfold jf_O_loud at H
  refine wp_s (i := .aload_n 0) (n := 1) (pc' := 1) (st' := [.ref 0]) rfl rfl ?_
  refine wp_s (i := .iload_n 1) (n := 1) (pc' := 2) (st' := [dz_I a1, .ref 0]) rfl rfl ?_
  refine wq_cv (Dq := D) (r' := mm_r104) (as0 := [dz_I a1]) (rest := []) (ls' := [some (.ref 0), some (dz_I a1)]) (pc' := 5) rfl rfl rfl rfl ho_O rfl rfl rfl ?_
  refine jw_O_isSpout (X := X) (D := D + 0) a1 Z (dz_pm (dz_bi H) (fun q1 H => ?_))
  show mm_Wp X (D + 1) mm_r79 5 [some (.ref 0), some (dz_I a1)] [dz_B q1] (hz_0 Z) Q
  refine wq_if (p := q1 = false) (tt := 20) (pc' := 8) rfl rfl (cb_eq) rfl (fun c2 => ?_) (fun c2 => ?_)
  · replace H := dz_it c2 H
    refine wp_s (i := .iconst (-1)) (n := 1) (pc' := 21) (st' := [dz_I (-1)]) rfl rfl ?_
    refine wq_ri rfl rfl ?_
    replace H := dz_sm H
    exact H
  · replace H := dz_if c2 H
    refine wp_s (i := .aload_n 0) (n := 1) (pc' := 9) (st' := [.ref 0]) rfl rfl ?_
    refine wq_gr (idx := 38) (a := 46) (pc' := 12) rfl rfl ho_O rfl rfl ?_
    refine wq_gr (idx := 217) (a := 46 + 5) (pc' := 15) rfl rfl (ho_F (Or.inl rfl)) rfl rfl ?_
    refine wp_s (i := .iload_n 1) (n := 1) (pc' := 16) (st' := [dz_I a1, .ref (46 + 5)]) rfl rfl ?_
    obtain ⟨k3, H⟩ := dz_ck H
    refine wq_ia (j' := dz_c a1) (pc' := 17) rfl (ha_F_4 (Or.inl rfl)) rfl k3.1 k3.2 rfl ?_
    refine wp_s (i := .goto 4) (n := 3) (pc' := 21) (st' := [dz_I (Z 46 4 (dz_c a1))]) rfl rfl ?_
    refine wq_ri rfl rfl ?_
    replace H := dz_sm H
    exact H
-- 105
def jf_O_isShower (a1 : Int) (Z : dz_Z) : Option (Bool) := if dz_c a1 < 0 then (some false) else (if hz_isP (Z 0 2 0).toNat then if dz_c (Z ((Z 0 2 0).toNat) 10 0) ≤ dz_c a1 then (some false) else (some true) else none)
set_option maxRecDepth 20000 in
theorem jw_O_isShower {X : Option (List Int32)} {D : Nat} {Q : Option Value → mm_H → Prop} (a1 : Int) (Z : dz_Z) (H : dz_p (jf_O_isShower a1 Z) (fun q => Q (some (dz_B q)) (hz_0 Z))) : mm_Wp X D mm_r105 0 [some (.ref 0), some (dz_I a1)] [] (hz_0 Z) Q := by
  unfold jf_O_isShower at H
  refine wp_s (i := .iload_n 1) (n := 1) (pc' := 1) (st' := [dz_I a1]) rfl rfl ?_
  refine wq_if (p := dz_c a1 < 0) (tt := 19) (pc' := 4) rfl rfl (cz_lt rfl) rfl (fun c1 => ?_) (fun c1 => ?_)
  · replace H := dz_it c1 H
    refine wp_s (i := .iconst 0) (n := 1) (pc' := 20) (st' := [dz_I 0]) rfl rfl ?_
    refine wq_rf rfl rfl ?_
    replace H := dz_sm H
    exact H
  · replace H := dz_if c1 H
    refine wp_s (i := .iload_n 1) (n := 1) (pc' := 5) (st' := [dz_I a1]) rfl rfl ?_
    refine wp_s (i := .aload_n 0) (n := 1) (pc' := 6) (st' := [.ref 0, dz_I a1]) rfl rfl ?_
    obtain ⟨k2, H⟩ := dz_ck H
    refine wq_gd (idx := 24) (pc' := 9) rfl rfl ho_O rfl rfl ?_
    refine wq_gi (idx := 117) (pc' := 12) rfl rfl (ho_P k2) rfl rfl ?_
    refine wq_ic (p := dz_c (Z ((Z 0 2 0).toNat) 10 0) ≤ dz_c a1) (tt := 19) (pc' := 15) rfl rfl (cq_ge rfl rfl) rfl (fun c3 => ?_) (fun c3 => ?_)
    · replace H := dz_it c3 H
      refine wp_s (i := .iconst 0) (n := 1) (pc' := 20) (st' := [dz_I 0]) rfl rfl ?_
      refine wq_rf rfl rfl ?_
      replace H := dz_sm H
      exact H
    · replace H := dz_if c3 H
      refine wp_s (i := .iconst 1) (n := 1) (pc' := 16) (st' := [dz_I 1]) rfl rfl ?_
      refine wp_s (i := .goto 4) (n := 3) (pc' := 20) (st' := [dz_I 1]) rfl rfl ?_
      refine wq_rt rfl rfl ?_
      replace H := dz_sm H
      exact H
-- 80
def jf_O_shower (a1 : Int) (a2 : Int) (Z : dz_Z) : Option (Int) := Option.bind (jf_O_isShower a1 Z) fun q1 => if q1 = false then (some (-1)) else (if dz_c a2 < (-1) then (some (-1)) else (if hz_isS (Z 0 3 0).toNat then if 0 ≤ dz_c a1 ∧ dz_c a1 < 3 then if dz_c a2 < dz_c (Z ((Z 0 3 0).toNat) 3 (dz_c a1)) then (if dz_c a2 ≠ (-1) then (if 0 ≤ dz_c a2 ∧ dz_c a2 < 12 then some (Z ((Z 0 3 0).toNat) (20 + Int.toNat (dz_c a1)) (dz_c a2)) else none) else (some (Z ((Z 0 3 0).toNat) 3 (dz_c a1)))) else (some (-1)) else none else none))
set_option maxRecDepth 20000 in
theorem jw_O_shower {X : Option (List Int32)} {D : Nat} {Q : Option Value → mm_H → Prop} (a1 : Int) (a2 : Int) (Z : dz_Z) (H : dz_p (jf_O_shower a1 a2 Z) (fun q => Q (some (dz_I q)) (hz_0 Z))) : mm_Wp X (D + 1) mm_r80 0 [some (.ref 0), some (dz_I a1), some (dz_I a2)] [] (hz_0 Z) Q := by
  unfold jf_O_shower at H
  refine wp_s (i := .aload_n 0) (n := 1) (pc' := 1) (st' := [.ref 0]) rfl rfl ?_
  refine wp_s (i := .iload_n 1) (n := 1) (pc' := 2) (st' := [dz_I a1, .ref 0]) rfl rfl ?_
  refine wq_cv (Dq := D) (r' := mm_r105) (as0 := [dz_I a1]) (rest := []) (ls' := [some (.ref 0), some (dz_I a1)]) (pc' := 5) rfl rfl rfl rfl ho_O rfl rfl rfl ?_
  refine jw_O_isShower (X := X) (D := D + 0) a1 Z (dz_pm (dz_bi H) (fun q1 H => ?_))
  show mm_Wp X (D + 1) mm_r80 5 [some (.ref 0), some (dz_I a1), some (dz_I a2)] [dz_B q1] (hz_0 Z) Q
  refine wq_if (p := q1 = false) (tt := 26) (pc' := 8) rfl rfl (cb_eq) rfl (fun c2 => ?_) (fun c2 => ?_)
  · replace H := dz_it c2 H
    refine wp_s (i := .iconst (-1)) (n := 1) (pc' := 27) (st' := [dz_I (-1)]) rfl rfl ?_
    refine wq_ri rfl rfl ?_
    replace H := dz_sm H
    exact H
  · replace H := dz_if c2 H
    refine wp_s (i := .iload_n 2) (n := 1) (pc' := 9) (st' := [dz_I a2]) rfl rfl ?_
    refine wp_s (i := .iconst (-1)) (n := 1) (pc' := 10) (st' := [dz_I (-1), dz_I a2]) rfl rfl ?_
    refine wq_ic (p := dz_c a2 < (-1)) (tt := 26) (pc' := 13) rfl rfl (cq_lt rfl dk_m1) rfl (fun c3 => ?_) (fun c3 => ?_)
    · replace H := dz_it c3 H
      refine wp_s (i := .iconst (-1)) (n := 1) (pc' := 27) (st' := [dz_I (-1)]) rfl rfl ?_
      refine wq_ri rfl rfl ?_
      replace H := dz_sm H
      exact H
    · replace H := dz_if c3 H
      refine wp_s (i := .iload_n 2) (n := 1) (pc' := 14) (st' := [dz_I a2]) rfl rfl ?_
      refine wp_s (i := .aload_n 0) (n := 1) (pc' := 15) (st' := [.ref 0, dz_I a2]) rfl rfl ?_
      obtain ⟨k4, H⟩ := dz_ck H
      refine wq_gd (idx := 31) (pc' := 18) rfl rfl ho_O rfl rfl ?_
      refine wq_gr (idx := 223) (a := (Z 0 3 0).toNat + 4) (pc' := 21) rfl rfl (ho_S k4) rfl rfl ?_
      refine wp_s (i := .iload_n 1) (n := 1) (pc' := 22) (st' := [dz_I a1, .ref ((Z 0 3 0).toNat + 4), dz_I a2]) rfl rfl ?_
      obtain ⟨k5, H⟩ := dz_ck H
      refine wq_ia (j' := dz_c a1) (pc' := 23) rfl (ha_S_3 k4) rfl k5.1 k5.2 rfl ?_
      refine wq_ic (p := dz_c a2 < dz_c (Z ((Z 0 3 0).toNat) 3 (dz_c a1))) (tt := 28) (pc' := 26) rfl rfl (cq_lt rfl rfl) rfl (fun c6 => ?_) (fun c6 => ?_)
      · replace H := dz_it c6 H
        refine wp_s (i := .iload_n 2) (n := 1) (pc' := 29) (st' := [dz_I a2]) rfl rfl ?_
        refine wp_s (i := .iconst (-1)) (n := 1) (pc' := 30) (st' := [dz_I (-1), dz_I a2]) rfl rfl ?_
        refine wq_ic (p := dz_c a2 ≠ (-1)) (tt := 45) (pc' := 33) rfl rfl (cq_ne rfl dk_m1) rfl (fun c7 => ?_) (fun c7 => ?_)
        · replace H := dz_it c7 H
          refine wp_s (i := .aload_n 0) (n := 1) (pc' := 46) (st' := [.ref 0]) rfl rfl ?_
          refine wq_gd (idx := 31) (pc' := 49) rfl rfl ho_O rfl rfl ?_
          refine wq_gr (idx := 226) (a := (Z 0 3 0).toNat + 5) (pc' := 52) rfl rfl (ho_S k4) rfl rfl ?_
          refine wp_s (i := .iload_n 1) (n := 1) (pc' := 53) (st' := [dz_I a1, .ref ((Z 0 3 0).toNat + 5)]) rfl rfl ?_
          refine wq_aa (j' := dz_c a1) (a := (Z 0 3 0).toNat + 6 + Int.toNat (dz_c a1)) (pc' := 54) rfl (by decide) (ha_S_4 k4) rfl k5.1 k5.2 (hr_S k5.1 k5.2) rfl ?_
          refine wp_s (i := .iload_n 2) (n := 1) (pc' := 55) (st' := [dz_I a2, .ref ((Z 0 3 0).toNat + 6 + Int.toNat (dz_c a1))]) rfl rfl ?_
          obtain ⟨k8, H⟩ := dz_ck H
          refine wq_ia (j' := dz_c a2) (pc' := 56) rfl (ha_Sr k4 k5.1 k5.2) rfl k8.1 k8.2 rfl ?_
          refine wq_ri rfl rfl ?_
          replace H := dz_sm H
          exact H
        · replace H := dz_if c7 H
          refine wp_s (i := .aload_n 0) (n := 1) (pc' := 34) (st' := [.ref 0]) rfl rfl ?_
          refine wq_gd (idx := 31) (pc' := 37) rfl rfl ho_O rfl rfl ?_
          refine wq_gr (idx := 223) (a := (Z 0 3 0).toNat + 4) (pc' := 40) rfl rfl (ho_S k4) rfl rfl ?_
          refine wp_s (i := .iload_n 1) (n := 1) (pc' := 41) (st' := [dz_I a1, .ref ((Z 0 3 0).toNat + 4)]) rfl rfl ?_
          refine wq_ia (j' := dz_c a1) (pc' := 42) rfl (ha_S_3 k4) rfl k5.1 k5.2 rfl ?_
          refine wp_s (i := .goto 14) (n := 3) (pc' := 56) (st' := [dz_I (Z ((Z 0 3 0).toNat) 3 (dz_c a1))]) rfl rfl ?_
          refine wq_ri rfl rfl ?_
          replace H := dz_sm H
          exact H
      · replace H := dz_if c6 H
        refine wp_s (i := .iconst (-1)) (n := 1) (pc' := 27) (st' := [dz_I (-1)]) rfl rfl ?_
        refine wq_ri rfl rfl ?_
        replace H := dz_sm H
        exact H
-- 81
def jf_O_plays (a1 : Int) (a2 : Int) (Z : dz_Z) : Option (Int × dz_Z) := Option.bind (jf_O_isShower a1 Z) fun q1 => if q1 = false then (some ((-1), Z)) else (if dz_c a2 < 0 then (some ((-1), Z)) else (if hz_isS (Z 0 3 0).toNat then if 0 ≤ dz_c a1 ∧ dz_c a1 < 3 then if dz_c a2 < dz_c (Z ((Z 0 3 0).toNat) 3 (dz_c a1)) then (if hz_isP (Z 0 2 0).toNat then Option.bind (jf_C_perform ((Z 0 2 0).toNat) ((Z 0 3 0).toNat) a1 Z) fun q8 => if 0 ≤ dz_c a2 ∧ dz_c a2 < 12 then some (q8 54 1 (dz_c a2), q8) else none else none) else (some ((-1), Z)) else none else none))
set_option maxRecDepth 20000 in
theorem jw_O_plays {X : Option (List Int32)} {D : Nat} {Q : Option Value → mm_H → Prop} (a1 : Int) (a2 : Int) (Z : dz_Z) (H : dz_p (jf_O_plays a1 a2 Z) (fun q => Q (some (dz_I q.1)) (hz_0 q.2))) : mm_Wp X (D + 5) mm_r81 0 [some (.ref 0), some (dz_I a1), some (dz_I a2)] [] (hz_0 Z) Q := by
  unfold jf_O_plays at H
  refine wp_s (i := .aload_n 0) (n := 1) (pc' := 1) (st' := [.ref 0]) rfl rfl ?_
  refine wp_s (i := .iload_n 1) (n := 1) (pc' := 2) (st' := [dz_I a1, .ref 0]) rfl rfl ?_
  refine wq_cv (Dq := (D + 4)) (r' := mm_r105) (as0 := [dz_I a1]) (rest := []) (ls' := [some (.ref 0), some (dz_I a1)]) (pc' := 5) rfl rfl rfl rfl ho_O rfl rfl rfl ?_
  refine jw_O_isShower (X := X) (D := D + 4) a1 Z (dz_pm (dz_bi H) (fun q1 H => ?_))
  show mm_Wp X (D + 5) mm_r81 5 [some (.ref 0), some (dz_I a1), some (dz_I a2)] [dz_B q1] (hz_0 Z) Q
  refine wq_if (p := q1 = false) (tt := 25) (pc' := 8) rfl rfl (cb_eq) rfl (fun c2 => ?_) (fun c2 => ?_)
  · replace H := dz_it c2 H
    refine wp_s (i := .iconst (-1)) (n := 1) (pc' := 26) (st' := [dz_I (-1)]) rfl rfl ?_
    refine wq_ri rfl rfl ?_
    replace H := dz_sm H
    exact H
  · replace H := dz_if c2 H
    refine wp_s (i := .iload_n 2) (n := 1) (pc' := 9) (st' := [dz_I a2]) rfl rfl ?_
    refine wq_if (p := dz_c a2 < 0) (tt := 25) (pc' := 12) rfl rfl (cz_lt rfl) rfl (fun c3 => ?_) (fun c3 => ?_)
    · replace H := dz_it c3 H
      refine wp_s (i := .iconst (-1)) (n := 1) (pc' := 26) (st' := [dz_I (-1)]) rfl rfl ?_
      refine wq_ri rfl rfl ?_
      replace H := dz_sm H
      exact H
    · replace H := dz_if c3 H
      refine wp_s (i := .iload_n 2) (n := 1) (pc' := 13) (st' := [dz_I a2]) rfl rfl ?_
      refine wp_s (i := .aload_n 0) (n := 1) (pc' := 14) (st' := [.ref 0, dz_I a2]) rfl rfl ?_
      obtain ⟨k4, H⟩ := dz_ck H
      refine wq_gd (idx := 31) (pc' := 17) rfl rfl ho_O rfl rfl ?_
      refine wq_gr (idx := 223) (a := (Z 0 3 0).toNat + 4) (pc' := 20) rfl rfl (ho_S k4) rfl rfl ?_
      refine wp_s (i := .iload_n 1) (n := 1) (pc' := 21) (st' := [dz_I a1, .ref ((Z 0 3 0).toNat + 4), dz_I a2]) rfl rfl ?_
      obtain ⟨k5, H⟩ := dz_ck H
      refine wq_ia (j' := dz_c a1) (pc' := 22) rfl (ha_S_3 k4) rfl k5.1 k5.2 rfl ?_
      refine wq_ic (p := dz_c a2 < dz_c (Z ((Z 0 3 0).toNat) 3 (dz_c a1))) (tt := 27) (pc' := 25) rfl rfl (cq_lt rfl rfl) rfl (fun c6 => ?_) (fun c6 => ?_)
      · replace H := dz_it c6 H
        refine wp_s (i := .aload_n 0) (n := 1) (pc' := 28) (st' := [.ref 0]) rfl rfl ?_
        refine wq_gr (idx := 45) (a := 54) (pc' := 31) rfl rfl ho_O rfl rfl ?_
        refine wp_s (i := .aload_n 0) (n := 1) (pc' := 32) (st' := [.ref 0, .ref 54]) rfl rfl ?_
        obtain ⟨k7, H⟩ := dz_ck H
        refine wq_gd (idx := 24) (pc' := 35) rfl rfl ho_O rfl rfl ?_
        refine wp_s (i := .aload_n 0) (n := 1) (pc' := 36) (st' := [.ref 0, .ref ((Z 0 2 0).toNat), .ref 54]) rfl rfl ?_
        refine wq_gd (idx := 31) (pc' := 39) rfl rfl ho_O rfl rfl ?_
        refine wp_s (i := .iload_n 1) (n := 1) (pc' := 40) (st' := [dz_I a1, .ref ((Z 0 3 0).toNat), .ref ((Z 0 2 0).toNat), .ref 54]) rfl rfl ?_
        refine wq_cv (Dq := (D + 4)) (r' := mm_r5) (as0 := [.ref ((Z 0 2 0).toNat), .ref ((Z 0 3 0).toNat), dz_I a1]) (rest := []) (ls' := [some (.ref 54), some (.ref ((Z 0 2 0).toNat)), some (.ref ((Z 0 3 0).toNat)), some (dz_I a1), none, none]) (pc' := 43) rfl rfl rfl rfl ho_C rfl rfl rfl ?_
        refine jw_C_perform (X := X) (D := D + 0) ((Z 0 2 0).toNat) k7 ((Z 0 3 0).toNat) k4 a1 Z (dz_pm (dz_bi H) (fun q8 H => ?_))
        show mm_Wp X (D + 5) mm_r81 43 [some (.ref 0), some (dz_I a1), some (dz_I a2)] [] (hz_0 q8) Q
        refine wp_s (i := .aload_n 0) (n := 1) (pc' := 44) (st' := [.ref 0]) rfl rfl ?_
        refine wq_gr (idx := 45) (a := 54) (pc' := 47) rfl rfl ho_O rfl rfl ?_
        refine wq_gr (idx := 234) (a := 63) (pc' := 50) rfl rfl ho_C rfl rfl ?_
        refine wp_s (i := .iload_n 2) (n := 1) (pc' := 51) (st' := [dz_I a2, .ref 63]) rfl rfl ?_
        obtain ⟨k9, H⟩ := dz_ck H
        refine wq_ia (j' := dz_c a2) (pc' := 52) rfl ha_C_1 rfl k9.1 k9.2 rfl ?_
        refine wq_ri rfl rfl ?_
        replace H := dz_sm H
        exact H
      · replace H := dz_if c6 H
        refine wp_s (i := .iconst (-1)) (n := 1) (pc' := 26) (st' := [dz_I (-1)]) rfl rfl ?_
        refine wq_ri rfl rfl ?_
        replace H := dz_sm H
        exact H
-- 112
def jf_O_allSpouts (Z : dz_Z) : Option (Int) := if hz_isP (Z 0 2 0).toNat then some ((dz_sl 1 (Z ((Z 0 2 0).toNat) 6 0)) - 1) else none
set_option maxRecDepth 20000 in
theorem jw_O_allSpouts {X : Option (List Int32)} {D : Nat} {Q : Option Value → mm_H → Prop} (Z : dz_Z) (H : dz_p (jf_O_allSpouts Z) (fun q => Q (some (dz_I q)) (hz_0 Z))) : mm_Wp X D mm_r112 0 [some (.ref 0)] [] (hz_0 Z) Q := by
  unfold jf_O_allSpouts at H
  refine wp_s (i := .iconst 1) (n := 1) (pc' := 1) (st' := [dz_I 1]) rfl rfl ?_
  refine wp_s (i := .aload_n 0) (n := 1) (pc' := 2) (st' := [.ref 0, dz_I 1]) rfl rfl ?_
  obtain ⟨k1, H⟩ := dz_ck H
  refine wq_gd (idx := 24) (pc' := 5) rfl rfl ho_O rfl rfl ?_
  refine wq_gi (idx := 114) (pc' := 8) rfl rfl (ho_P k1) rfl rfl ?_
  refine wq_2 (i := .ishl) (z := dz_sl 1 (Z ((Z 0 2 0).toNat) 6 0)) (pc' := 9) rfl rfl (op_shl _ _) rfl ?_
  refine wp_s (i := .iconst 1) (n := 1) (pc' := 10) (st' := [dz_I 1, dz_I (dz_sl 1 (Z ((Z 0 2 0).toNat) 6 0))]) rfl rfl ?_
  refine wq_2 (i := .isub) (z := (dz_sl 1 (Z ((Z 0 2 0).toNat) 6 0)) - 1) (pc' := 11) rfl rfl (op_sub _ _) rfl ?_
  refine wq_ri rfl rfl ?_
  replace H := dz_sm H
  exact H
-- 82
def jf_O_falls (a1 : Int) (a2 : Int) (Z : dz_Z) : Option (Int × dz_Z) := Option.bind (jf_O_isShower a1 Z) fun q1 => if q1 = false then (some ((-1), Z)) else (if dz_c a2 < 0 then (some ((-1), Z)) else (if dz_c a2 ≤ 7 then (if hz_isP (Z 0 2 0).toNat then if hz_isS (Z 0 3 0).toNat then Option.bind (jf_C_perform ((Z 0 2 0).toNat) ((Z 0 3 0).toNat) a1 Z) fun q7 => if dz_c a2 = 0 then (some (q7 55 6 0, q7)) else (if dz_c a2 = 1 then (some (q7 55 7 0, q7)) else (if dz_c a2 = 2 then (Option.bind (jf_O_sum 55 0 8 q7) fun q11 => some (q11, q7)) else (if dz_c a2 = 3 then (Option.bind (jf_O_sum 55 3 8 q7) fun q13 => some (q13, q7)) else (if dz_c a2 = 4 then (some (q7 55 8 0, q7)) else (if dz_c a2 = 5 then (Option.bind (jf_C_loudestSecond q7) fun q16 => some (q16, q7)) else (if dz_c a2 = 6 then (if hz_isP (q7 0 2 0).toNat then Option.bind (jf_F_brokenSpouts 55 ((q7 0 2 0).toNat) q7) fun q19 => some (q19, q7) else none) else (Option.bind (jf_O_allSpouts q7) fun q20 => some (dz_an q20 (dz_xo (q7 55 9 0) (-1)), q7)))))))) else none else none) else (some ((-1), Z))))
set_option maxRecDepth 20000 in
theorem jw_O_falls {X : Option (List Int32)} {D : Nat} {Q : Option Value → mm_H → Prop} (a1 : Int) (a2 : Int) (Z : dz_Z) (H : dz_p (jf_O_falls a1 a2 Z) (fun q => Q (some (dz_I q.1)) (hz_0 q.2))) : mm_Wp X (D + 5) mm_r82 0 [some (.ref 0), some (dz_I a1), some (dz_I a2), none] [] (hz_0 Z) Q := by
  unfold jf_O_falls at H
  refine wp_s (i := .aload_n 0) (n := 1) (pc' := 1) (st' := [.ref 0]) rfl rfl ?_
  refine wp_s (i := .iload_n 1) (n := 1) (pc' := 2) (st' := [dz_I a1, .ref 0]) rfl rfl ?_
  refine wq_cv (Dq := (D + 4)) (r' := mm_r105) (as0 := [dz_I a1]) (rest := []) (ls' := [some (.ref 0), some (dz_I a1)]) (pc' := 5) rfl rfl rfl rfl ho_O rfl rfl rfl ?_
  refine jw_O_isShower (X := X) (D := D + 4) a1 Z (dz_pm (dz_bi H) (fun q1 H => ?_))
  show mm_Wp X (D + 5) mm_r82 5 [some (.ref 0), some (dz_I a1), some (dz_I a2), none] [dz_B q1] (hz_0 Z) Q
  refine wq_if (p := q1 = false) (tt := 18) (pc' := 8) rfl rfl (cb_eq) rfl (fun c2 => ?_) (fun c2 => ?_)
  · replace H := dz_it c2 H
    refine wp_s (i := .iconst (-1)) (n := 1) (pc' := 19) (st' := [dz_I (-1)]) rfl rfl ?_
    refine wq_ri rfl rfl ?_
    replace H := dz_sm H
    exact H
  · replace H := dz_if c2 H
    refine wp_s (i := .iload_n 2) (n := 1) (pc' := 9) (st' := [dz_I a2]) rfl rfl ?_
    refine wq_if (p := dz_c a2 < 0) (tt := 18) (pc' := 12) rfl rfl (cz_lt rfl) rfl (fun c3 => ?_) (fun c3 => ?_)
    · replace H := dz_it c3 H
      refine wp_s (i := .iconst (-1)) (n := 1) (pc' := 19) (st' := [dz_I (-1)]) rfl rfl ?_
      refine wq_ri rfl rfl ?_
      replace H := dz_sm H
      exact H
    · replace H := dz_if c3 H
      refine wp_s (i := .iload_n 2) (n := 1) (pc' := 13) (st' := [dz_I a2]) rfl rfl ?_
      refine wp_s (i := .bipush 7) (n := 2) (pc' := 15) (st' := [dz_I 7, dz_I a2]) rfl rfl ?_
      refine wq_ic (p := dz_c a2 ≤ 7) (tt := 20) (pc' := 18) rfl rfl (cq_le rfl dk_7) rfl (fun c4 => ?_) (fun c4 => ?_)
      · replace H := dz_it c4 H
        refine wp_s (i := .aload_n 0) (n := 1) (pc' := 21) (st' := [.ref 0]) rfl rfl ?_
        refine wq_gr (idx := 45) (a := 54) (pc' := 24) rfl rfl ho_O rfl rfl ?_
        refine wp_s (i := .aload_n 0) (n := 1) (pc' := 25) (st' := [.ref 0, .ref 54]) rfl rfl ?_
        obtain ⟨k5, H⟩ := dz_ck H
        refine wq_gd (idx := 24) (pc' := 28) rfl rfl ho_O rfl rfl ?_
        refine wp_s (i := .aload_n 0) (n := 1) (pc' := 29) (st' := [.ref 0, .ref ((Z 0 2 0).toNat), .ref 54]) rfl rfl ?_
        obtain ⟨k6, H⟩ := dz_ck H
        refine wq_gd (idx := 31) (pc' := 32) rfl rfl ho_O rfl rfl ?_
        refine wp_s (i := .iload_n 1) (n := 1) (pc' := 33) (st' := [dz_I a1, .ref ((Z 0 3 0).toNat), .ref ((Z 0 2 0).toNat), .ref 54]) rfl rfl ?_
        refine wq_cv (Dq := (D + 4)) (r' := mm_r5) (as0 := [.ref ((Z 0 2 0).toNat), .ref ((Z 0 3 0).toNat), dz_I a1]) (rest := []) (ls' := [some (.ref 54), some (.ref ((Z 0 2 0).toNat)), some (.ref ((Z 0 3 0).toNat)), some (dz_I a1), none, none]) (pc' := 36) rfl rfl rfl rfl ho_C rfl rfl rfl ?_
        refine jw_C_perform (X := X) (D := D + 0) ((Z 0 2 0).toNat) k5 ((Z 0 3 0).toNat) k6 a1 Z (dz_pm (dz_bi H) (fun q7 H => ?_))
        show mm_Wp X (D + 5) mm_r82 36 [some (.ref 0), some (dz_I a1), some (dz_I a2), none] [] (hz_0 q7) Q
        refine wp_s (i := .aload_n 0) (n := 1) (pc' := 37) (st' := [.ref 0]) rfl rfl ?_
        refine wq_gr (idx := 45) (a := 54) (pc' := 40) rfl rfl ho_O rfl rfl ?_
        refine wq_gr (idx := 235) (a := 55) (pc' := 43) rfl rfl ho_C rfl rfl ?_
        refine wp_s (i := .astore_n 3) (n := 1) (pc' := 44) (ls' := [some (.ref 0), some (dz_I a1), some (dz_I a2), some (.ref 55)]) (st' := []) rfl rfl ?_
        refine wp_s (i := .iload_n 2) (n := 1) (pc' := 45) (st' := [dz_I a2]) rfl rfl ?_
        by_cases c8 : dz_c a2 = 0
        · replace H := dz_it c8 H
          refine wq_ts (x' := dz_c a2) (tt := 88) rfl rfl (by rw [c8]; rfl) ?_
          refine wp_s (i := .aload_n 3) (n := 1) (pc' := 89) (st' := [.ref 55]) rfl rfl ?_
          refine wq_gi (idx := 204) (pc' := 92) rfl rfl (ho_F (Or.inr (Or.inl rfl))) rfl rfl ?_
          refine wq_ri rfl rfl ?_
          replace H := dz_sm H
          exact H
        · replace H := dz_if c8 H
          by_cases c9 : dz_c a2 = 1
          · replace H := dz_it c9 H
            refine wq_ts (x' := dz_c a2) (tt := 93) rfl rfl (by rw [c9]; rfl) ?_
            refine wp_s (i := .aload_n 3) (n := 1) (pc' := 94) (st' := [.ref 55]) rfl rfl ?_
            refine wq_gi (idx := 207) (pc' := 97) rfl rfl (ho_F (Or.inr (Or.inl rfl))) rfl rfl ?_
            refine wq_ri rfl rfl ?_
            replace H := dz_sm H
            exact H
          · replace H := dz_if c9 H
            by_cases c10 : dz_c a2 = 2
            · replace H := dz_it c10 H
              refine wq_ts (x' := dz_c a2) (tt := 98) rfl rfl (by rw [c10]; rfl) ?_
              refine wp_s (i := .aload_n 3) (n := 1) (pc' := 99) (st' := [.ref 55]) rfl rfl ?_
              refine wq_gr (idx := 164) (a := 55 + 1) (pc' := 102) rfl rfl (ho_F (Or.inr (Or.inl rfl))) rfl rfl ?_
              refine wq_cs (Dq := (D + 4)) (r' := mm_r111) (as0 := [.ref (55 + 1)]) (rest := []) (ls' := [some (.ref (55 + 1)), none, none, none, none, none]) (pc' := 105) rfl rfl (by decide) rfl rfl rfl rfl rfl ?_
              refine jw_O_sum (X := X) (D := D + 4) (55 + 1) 55 0 8 (ha_F_0 (Or.inr (Or.inl rfl))) q7 (dz_pm (dz_bi H) (fun q11 H => ?_))
              show mm_Wp X (D + 5) mm_r82 105 [some (.ref 0), some (dz_I a1), some (dz_I a2), some (.ref 55)] [dz_I q11] (hz_0 q7) Q
              refine wq_ri rfl rfl ?_
              replace H := dz_sm H
              exact H
            · replace H := dz_if c10 H
              by_cases c12 : dz_c a2 = 3
              · replace H := dz_it c12 H
                refine wq_ts (x' := dz_c a2) (tt := 106) rfl rfl (by rw [c12]; rfl) ?_
                refine wp_s (i := .aload_n 3) (n := 1) (pc' := 107) (st' := [.ref 55]) rfl rfl ?_
                refine wq_gr (idx := 175) (a := 55 + 4) (pc' := 110) rfl rfl (ho_F (Or.inr (Or.inl rfl))) rfl rfl ?_
                refine wq_cs (Dq := (D + 4)) (r' := mm_r111) (as0 := [.ref (55 + 4)]) (rest := []) (ls' := [some (.ref (55 + 4)), none, none, none, none, none]) (pc' := 113) rfl rfl (by decide) rfl rfl rfl rfl rfl ?_
                refine jw_O_sum (X := X) (D := D + 4) (55 + 4) 55 3 8 (ha_F_3 (Or.inr (Or.inl rfl))) q7 (dz_pm (dz_bi H) (fun q13 H => ?_))
                show mm_Wp X (D + 5) mm_r82 113 [some (.ref 0), some (dz_I a1), some (dz_I a2), some (.ref 55)] [dz_I q13] (hz_0 q7) Q
                refine wq_ri rfl rfl ?_
                replace H := dz_sm H
                exact H
              · replace H := dz_if c12 H
                by_cases c14 : dz_c a2 = 4
                · replace H := dz_it c14 H
                  refine wq_ts (x' := dz_c a2) (tt := 114) rfl rfl (by rw [c14]; rfl) ?_
                  refine wp_s (i := .aload_n 3) (n := 1) (pc' := 115) (st' := [.ref 55]) rfl rfl ?_
                  refine wq_gi (idx := 214) (pc' := 118) rfl rfl (ho_F (Or.inr (Or.inl rfl))) rfl rfl ?_
                  refine wq_ri rfl rfl ?_
                  replace H := dz_sm H
                  exact H
                · replace H := dz_if c14 H
                  by_cases c15 : dz_c a2 = 5
                  · replace H := dz_it c15 H
                    refine wq_ts (x' := dz_c a2) (tt := 119) rfl rfl (by rw [c15]; rfl) ?_
                    refine wp_s (i := .aload_n 0) (n := 1) (pc' := 120) (st' := [.ref 0]) rfl rfl ?_
                    refine wq_gr (idx := 45) (a := 54) (pc' := 123) rfl rfl ho_O rfl rfl ?_
                    refine wq_cv (Dq := (D + 4)) (r' := mm_r7) (as0 := []) (rest := []) (ls' := [some (.ref 54), none, none, none]) (pc' := 126) rfl rfl rfl rfl ho_C rfl rfl rfl ?_
                    refine jw_C_loudestSecond (X := X) (D := D + 4) q7 (dz_pm (dz_bi H) (fun q16 H => ?_))
                    show mm_Wp X (D + 5) mm_r82 126 [some (.ref 0), some (dz_I a1), some (dz_I a2), some (.ref 55)] [dz_I q16] (hz_0 q7) Q
                    refine wq_ri rfl rfl ?_
                    replace H := dz_sm H
                    exact H
                  · replace H := dz_if c15 H
                    by_cases c17 : dz_c a2 = 6
                    · replace H := dz_it c17 H
                      refine wq_ts (x' := dz_c a2) (tt := 127) rfl rfl (by rw [c17]; rfl) ?_
                      refine wp_s (i := .aload_n 3) (n := 1) (pc' := 128) (st' := [.ref 55]) rfl rfl ?_
                      refine wp_s (i := .aload_n 0) (n := 1) (pc' := 129) (st' := [.ref 0, .ref 55]) rfl rfl ?_
                      obtain ⟨k18, H⟩ := dz_ck H
                      refine wq_gd (idx := 24) (pc' := 132) rfl rfl ho_O rfl rfl ?_
                      refine wq_cv (Dq := (D + 4)) (r' := mm_r24) (as0 := [.ref ((q7 0 2 0).toNat)]) (rest := []) (ls' := [some (.ref 55), some (.ref ((q7 0 2 0).toNat)), none, none]) (pc' := 135) rfl rfl rfl rfl (ho_F (Or.inr (Or.inl rfl))) rfl rfl rfl ?_
                      refine jw_F_brokenSpouts (X := X) (D := D + 3) 55 (Or.inr (Or.inl rfl)) ((q7 0 2 0).toNat) k18 q7 (dz_pm (dz_bi H) (fun q19 H => ?_))
                      show mm_Wp X (D + 5) mm_r82 135 [some (.ref 0), some (dz_I a1), some (dz_I a2), some (.ref 55)] [dz_I q19] (hz_0 q7) Q
                      refine wq_ri rfl rfl ?_
                      replace H := dz_sm H
                      exact H
                    · replace H := dz_if c17 H
                      refine wq_ts (x' := dz_c a2) (tt := 136) rfl rfl (by unfold mm_sw; rw [if_pos (by omega)]; rfl) ?_
                      refine wp_s (i := .aload_n 0) (n := 1) (pc' := 137) (st' := [.ref 0]) rfl rfl ?_
                      refine wq_cv (Dq := (D + 4)) (r' := mm_r112) (as0 := []) (rest := []) (ls' := [some (.ref 0)]) (pc' := 140) rfl rfl rfl rfl ho_O rfl rfl rfl ?_
                      refine jw_O_allSpouts (X := X) (D := D + 4) q7 (dz_pm (dz_bi H) (fun q20 H => ?_))
                      show mm_Wp X (D + 5) mm_r82 140 [some (.ref 0), some (dz_I a1), some (dz_I a2), some (.ref 55)] [dz_I q20] (hz_0 q7) Q
                      refine wp_s (i := .aload_n 3) (n := 1) (pc' := 141) (st' := [.ref 55, dz_I q20]) rfl rfl ?_
                      refine wq_gi (idx := 248) (pc' := 144) rfl rfl (ho_F (Or.inr (Or.inl rfl))) rfl rfl ?_
                      refine wp_s (i := .iconst (-1)) (n := 1) (pc' := 145) (st' := [dz_I (-1), dz_I (q7 55 9 0), dz_I q20]) rfl rfl ?_
                      refine wq_2 (i := .ixor) (z := dz_xo (q7 55 9 0) (-1)) (pc' := 146) rfl rfl (op_xor _ _) rfl ?_
                      refine wq_2 (i := .iand) (z := dz_an q20 (dz_xo (q7 55 9 0) (-1))) (pc' := 147) rfl rfl (op_and _ _) rfl ?_
                      refine wq_ri rfl rfl ?_
                      replace H := dz_sm H
                      exact H
      · replace H := dz_if c4 H
        refine wp_s (i := .iconst (-1)) (n := 1) (pc' := 19) (st' := [dz_I (-1)]) rfl rfl ?_
        refine wq_ri rfl rfl ?_
        replace H := dz_sm H
        exact H
-- 83
def jf_O_tune (a1 : Int) (Z : dz_Z) : Option (Int) := if dz_c a1 < 0 then (some (-1)) else (if hz_isS (Z 0 3 0).toNat then if dz_c (Z ((Z 0 3 0).toNat) 6 0) ≤ dz_c a1 then (some (-1)) else (if 0 ≤ dz_c a1 ∧ dz_c a1 < 12 then some (Z ((Z 0 3 0).toNat) 5 (dz_c a1)) else none) else none)
set_option maxRecDepth 20000 in
theorem jw_O_tune {X : Option (List Int32)} {D : Nat} {Q : Option Value → mm_H → Prop} (a1 : Int) (Z : dz_Z) (H : dz_p (jf_O_tune a1 Z) (fun q => Q (some (dz_I q)) (hz_0 Z))) : mm_Wp X D mm_r83 0 [some (.ref 0), some (dz_I a1)] [] (hz_0 Z) Q := by
  unfold jf_O_tune at H
  refine wp_s (i := .iload_n 1) (n := 1) (pc' := 1) (st' := [dz_I a1]) rfl rfl ?_
  refine wq_if (p := dz_c a1 < 0) (tt := 27) (pc' := 4) rfl rfl (cz_lt rfl) rfl (fun c1 => ?_) (fun c1 => ?_)
  · replace H := dz_it c1 H
    refine wp_s (i := .iconst (-1)) (n := 1) (pc' := 28) (st' := [dz_I (-1)]) rfl rfl ?_
    refine wq_ri rfl rfl ?_
    replace H := dz_sm H
    exact H
  · replace H := dz_if c1 H
    refine wp_s (i := .iload_n 1) (n := 1) (pc' := 5) (st' := [dz_I a1]) rfl rfl ?_
    refine wp_s (i := .aload_n 0) (n := 1) (pc' := 6) (st' := [.ref 0, dz_I a1]) rfl rfl ?_
    obtain ⟨k2, H⟩ := dz_ck H
    refine wq_gd (idx := 31) (pc' := 9) rfl rfl ho_O rfl rfl ?_
    refine wq_gi (idx := 120) (pc' := 12) rfl rfl (ho_S k2) rfl rfl ?_
    refine wq_ic (p := dz_c (Z ((Z 0 3 0).toNat) 6 0) ≤ dz_c a1) (tt := 27) (pc' := 15) rfl rfl (cq_ge rfl rfl) rfl (fun c3 => ?_) (fun c3 => ?_)
    · replace H := dz_it c3 H
      refine wp_s (i := .iconst (-1)) (n := 1) (pc' := 28) (st' := [dz_I (-1)]) rfl rfl ?_
      refine wq_ri rfl rfl ?_
      replace H := dz_sm H
      exact H
    · replace H := dz_if c3 H
      refine wp_s (i := .aload_n 0) (n := 1) (pc' := 16) (st' := [.ref 0]) rfl rfl ?_
      refine wq_gd (idx := 31) (pc' := 19) rfl rfl ho_O rfl rfl ?_
      refine wq_gr (idx := 251) (a := (Z 0 3 0).toNat + 9) (pc' := 22) rfl rfl (ho_S k2) rfl rfl ?_
      refine wp_s (i := .iload_n 1) (n := 1) (pc' := 23) (st' := [dz_I a1, .ref ((Z 0 3 0).toNat + 9)]) rfl rfl ?_
      obtain ⟨k4, H⟩ := dz_ck H
      refine wq_ia (j' := dz_c a1) (pc' := 24) rfl (ha_S_5 k2) rfl k4.1 k4.2 rfl ?_
      refine wp_s (i := .goto 4) (n := 3) (pc' := 28) (st' := [dz_I (Z ((Z 0 3 0).toNat) 5 (dz_c a1))]) rfl rfl ?_
      refine wq_ri rfl rfl ?_
      replace H := dz_sm H
      exact H
-- 84
def jf_O_tells (a1 : Int) (a2 : Int) (Z : dz_Z) : Option (Int × dz_Z) := if dz_c a1 < 0 then (some ((-1), Z)) else (if hz_isS (Z 0 3 0).toNat then if dz_c (Z ((Z 0 3 0).toNat) 6 0) < dz_c a1 then (some ((-1), Z)) else (if dz_c a2 < 0 then (some ((-1), Z)) else (if dz_c a2 ≤ 255 then (if dz_c a1 < 12 then (if 0 ≤ dz_c a1 ∧ dz_c a1 < 12 then dz_a (dz_u Z ((Z 0 3 0).toNat) 5 (dz_c a1) a2) fun Z8 => if hz_isS (Z8 0 3 0).toNat then if dz_c a1 ≠ dz_c (Z8 ((Z8 0 3 0).toNat) 6 0) then (some (Z8 ((Z8 0 3 0).toNat) 6 0, Z8)) else (dz_a (dz_u Z8 ((Z8 0 3 0).toNat) 6 0 ((Z8 ((Z8 0 3 0).toNat) 6 0) + 1)) fun Z11 => if hz_isS (Z11 0 3 0).toNat then some (Z11 ((Z11 0 3 0).toNat) 6 0, Z11) else none) else none else none) else (some ((-3), Z))) else (some ((-1), Z)))) else none)
set_option maxRecDepth 20000 in
theorem jw_O_tells {X : Option (List Int32)} {D : Nat} {Q : Option Value → mm_H → Prop} (a1 : Int) (a2 : Int) (Z : dz_Z) (H : dz_p (jf_O_tells a1 a2 Z) (fun q => Q (some (dz_I q.1)) (hz_0 q.2))) : mm_Wp X D mm_r84 0 [some (.ref 0), some (dz_I a1), some (dz_I a2)] [] (hz_0 Z) Q := by
  unfold jf_O_tells at H
  refine wp_s (i := .iload_n 1) (n := 1) (pc' := 1) (st' := [dz_I a1]) rfl rfl ?_
  refine wq_if (p := dz_c a1 < 0) (tt := 26) (pc' := 4) rfl rfl (cz_lt rfl) rfl (fun c1 => ?_) (fun c1 => ?_)
  · replace H := dz_it c1 H
    refine wp_s (i := .iconst (-1)) (n := 1) (pc' := 27) (st' := [dz_I (-1)]) rfl rfl ?_
    refine wq_ri rfl rfl ?_
    replace H := dz_sm H
    exact H
  · replace H := dz_if c1 H
    refine wp_s (i := .iload_n 1) (n := 1) (pc' := 5) (st' := [dz_I a1]) rfl rfl ?_
    refine wp_s (i := .aload_n 0) (n := 1) (pc' := 6) (st' := [.ref 0, dz_I a1]) rfl rfl ?_
    obtain ⟨k2, H⟩ := dz_ck H
    refine wq_gd (idx := 31) (pc' := 9) rfl rfl ho_O rfl rfl ?_
    refine wq_gi (idx := 120) (pc' := 12) rfl rfl (ho_S k2) rfl rfl ?_
    refine wq_ic (p := dz_c (Z ((Z 0 3 0).toNat) 6 0) < dz_c a1) (tt := 26) (pc' := 15) rfl rfl (cq_gt rfl rfl) rfl (fun c3 => ?_) (fun c3 => ?_)
    · replace H := dz_it c3 H
      refine wp_s (i := .iconst (-1)) (n := 1) (pc' := 27) (st' := [dz_I (-1)]) rfl rfl ?_
      refine wq_ri rfl rfl ?_
      replace H := dz_sm H
      exact H
    · replace H := dz_if c3 H
      refine wp_s (i := .iload_n 2) (n := 1) (pc' := 16) (st' := [dz_I a2]) rfl rfl ?_
      refine wq_if (p := dz_c a2 < 0) (tt := 26) (pc' := 19) rfl rfl (cz_lt rfl) rfl (fun c4 => ?_) (fun c4 => ?_)
      · replace H := dz_it c4 H
        refine wp_s (i := .iconst (-1)) (n := 1) (pc' := 27) (st' := [dz_I (-1)]) rfl rfl ?_
        refine wq_ri rfl rfl ?_
        replace H := dz_sm H
        exact H
      · replace H := dz_if c4 H
        refine wp_s (i := .iload_n 2) (n := 1) (pc' := 20) (st' := [dz_I a2]) rfl rfl ?_
        refine wp_s (i := .sipush 255) (n := 3) (pc' := 23) (st' := [dz_I 255, dz_I a2]) rfl rfl ?_
        refine wq_ic (p := dz_c a2 ≤ 255) (tt := 28) (pc' := 26) rfl rfl (cq_le rfl dk_255) rfl (fun c5 => ?_) (fun c5 => ?_)
        · replace H := dz_it c5 H
          refine wp_s (i := .iload_n 1) (n := 1) (pc' := 29) (st' := [dz_I a1]) rfl rfl ?_
          refine wp_s (i := .bipush 12) (n := 2) (pc' := 31) (st' := [dz_I 12, dz_I a1]) rfl rfl ?_
          refine wq_ic (p := dz_c a1 < 12) (tt := 37) (pc' := 34) rfl rfl (cq_lt rfl dk_12) rfl (fun c6 => ?_) (fun c6 => ?_)
          · replace H := dz_it c6 H
            refine wp_s (i := .aload_n 0) (n := 1) (pc' := 38) (st' := [.ref 0]) rfl rfl ?_
            refine wq_gd (idx := 31) (pc' := 41) rfl rfl ho_O rfl rfl ?_
            refine wq_gr (idx := 251) (a := (Z 0 3 0).toNat + 9) (pc' := 44) rfl rfl (ho_S k2) rfl rfl ?_
            refine wp_s (i := .iload_n 1) (n := 1) (pc' := 45) (st' := [dz_I a1, .ref ((Z 0 3 0).toNat + 9)]) rfl rfl ?_
            refine wp_s (i := .iload_n 2) (n := 1) (pc' := 46) (st' := [dz_I a2, dz_I a1, .ref ((Z 0 3 0).toNat + 9)]) rfl rfl ?_
            obtain ⟨k7, H⟩ := dz_ck H
            refine wq_is (j' := dz_c a1) (x := a2) (pc' := 47) rfl (ha_S_5 k2) rfl k7.1 k7.2 rfl (fun Z8 eZ8 => ?_)
            replace H := dz_le H Z8 eZ8
            clear eZ8
            refine wp_s (i := .iload_n 1) (n := 1) (pc' := 48) (st' := [dz_I a1]) rfl rfl ?_
            refine wp_s (i := .aload_n 0) (n := 1) (pc' := 49) (st' := [.ref 0, dz_I a1]) rfl rfl ?_
            obtain ⟨k9, H⟩ := dz_ck H
            refine wq_gd (idx := 31) (pc' := 52) rfl rfl ho_O rfl rfl ?_
            refine wq_gi (idx := 120) (pc' := 55) rfl rfl (ho_S k9) rfl rfl ?_
            refine wq_ic (p := dz_c a1 ≠ dz_c (Z8 ((Z8 0 3 0).toNat) 6 0)) (tt := 71) (pc' := 58) rfl rfl (cq_ne rfl rfl) rfl (fun c10 => ?_) (fun c10 => ?_)
            · replace H := dz_it c10 H
              refine wp_s (i := .aload_n 0) (n := 1) (pc' := 72) (st' := [.ref 0]) rfl rfl ?_
              refine wq_gd (idx := 31) (pc' := 75) rfl rfl ho_O rfl rfl ?_
              refine wq_gi (idx := 120) (pc' := 78) rfl rfl (ho_S k9) rfl rfl ?_
              refine wq_ri rfl rfl ?_
              replace H := dz_sm H
              exact H
            · replace H := dz_if c10 H
              refine wp_s (i := .aload_n 0) (n := 1) (pc' := 59) (st' := [.ref 0]) rfl rfl ?_
              refine wq_gd (idx := 31) (pc' := 62) rfl rfl ho_O rfl rfl ?_
              refine wp_s (i := .dup) (n := 1) (pc' := 63) (st' := [.ref ((Z8 0 3 0).toNat), .ref ((Z8 0 3 0).toNat)]) rfl rfl ?_
              refine wq_gi (idx := 120) (pc' := 66) rfl rfl (ho_S k9) rfl rfl ?_
              refine wp_s (i := .iconst 1) (n := 1) (pc' := 67) (st' := [dz_I 1, dz_I (Z8 ((Z8 0 3 0).toNat) 6 0), .ref ((Z8 0 3 0).toNat)]) rfl rfl ?_
              refine wq_2 (i := .iadd) (z := (Z8 ((Z8 0 3 0).toNat) 6 0) + 1) (pc' := 68) rfl rfl (op_add _ _) rfl ?_
              refine wq_pi (idx := 120) (x := (Z8 ((Z8 0 3 0).toNat) 6 0) + 1) (pc' := 71) rfl rfl rfl (ho_S k9) rfl rfl rfl rfl (fun Z11 eZ11 => ?_)
              replace H := dz_le H Z11 eZ11
              clear eZ11
              refine wp_s (i := .aload_n 0) (n := 1) (pc' := 72) (st' := [.ref 0]) rfl rfl ?_
              obtain ⟨k12, H⟩ := dz_ck H
              refine wq_gd (idx := 31) (pc' := 75) rfl rfl ho_O rfl rfl ?_
              refine wq_gi (idx := 120) (pc' := 78) rfl rfl (ho_S k12) rfl rfl ?_
              refine wq_ri rfl rfl ?_
              replace H := dz_sm H
              exact H
          · replace H := dz_if c6 H
            refine wp_s (i := .bipush (-3)) (n := 2) (pc' := 36) (st' := [dz_I (-3)]) rfl rfl ?_
            refine wq_ri rfl rfl ?_
            replace H := dz_sm H
            exact H
        · replace H := dz_if c5 H
          refine wp_s (i := .iconst (-1)) (n := 1) (pc' := 27) (st' := [dz_I (-1)]) rfl rfl ?_
          refine wq_ri rfl rfl ?_
          replace H := dz_sm H
          exact H
end mg_25m06
section mg_25m07
-- 115
def jf_O_distance (a1 : Int) (Z : dz_Z) : Option (Int × dz_Z) := if hz_isP (Z 0 2 0).toNat then if hz_isS (Z 0 3 0).toNat then Option.bind (jf_C_perform ((Z 0 2 0).toNat) ((Z 0 3 0).toNat) a1 Z) fun q3 => if hz_isS (q3 0 3 0).toNat then Option.bind (jf_C_farFromTune ((q3 0 3 0).toNat) q3) fun q5 => some (q5, q3) else none else none else none
set_option maxRecDepth 20000 in
theorem jw_O_distance {X : Option (List Int32)} {D : Nat} {Q : Option Value → mm_H → Prop} (a1 : Int) (Z : dz_Z) (H : dz_p (jf_O_distance a1 Z) (fun q => Q (some (dz_I q.1)) (hz_0 q.2))) : mm_Wp X (D + 5) mm_r115 0 [some (.ref 0), some (dz_I a1)] [] (hz_0 Z) Q := by
  unfold jf_O_distance at H
  refine wp_s (i := .aload_n 0) (n := 1) (pc' := 1) (st' := [.ref 0]) rfl rfl ?_
  refine wq_gr (idx := 45) (a := 54) (pc' := 4) rfl rfl ho_O rfl rfl ?_
  refine wp_s (i := .aload_n 0) (n := 1) (pc' := 5) (st' := [.ref 0, .ref 54]) rfl rfl ?_
  obtain ⟨k1, H⟩ := dz_ck H
  refine wq_gd (idx := 24) (pc' := 8) rfl rfl ho_O rfl rfl ?_
  refine wp_s (i := .aload_n 0) (n := 1) (pc' := 9) (st' := [.ref 0, .ref ((Z 0 2 0).toNat), .ref 54]) rfl rfl ?_
  obtain ⟨k2, H⟩ := dz_ck H
  refine wq_gd (idx := 31) (pc' := 12) rfl rfl ho_O rfl rfl ?_
  refine wp_s (i := .iload_n 1) (n := 1) (pc' := 13) (st' := [dz_I a1, .ref ((Z 0 3 0).toNat), .ref ((Z 0 2 0).toNat), .ref 54]) rfl rfl ?_
  refine wq_cv (Dq := (D + 4)) (r' := mm_r5) (as0 := [.ref ((Z 0 2 0).toNat), .ref ((Z 0 3 0).toNat), dz_I a1]) (rest := []) (ls' := [some (.ref 54), some (.ref ((Z 0 2 0).toNat)), some (.ref ((Z 0 3 0).toNat)), some (dz_I a1), none, none]) (pc' := 16) rfl rfl rfl rfl ho_C rfl rfl rfl ?_
  refine jw_C_perform (X := X) (D := D + 0) ((Z 0 2 0).toNat) k1 ((Z 0 3 0).toNat) k2 a1 Z (dz_pm (dz_bi H) (fun q3 H => ?_))
  show mm_Wp X (D + 5) mm_r115 16 [some (.ref 0), some (dz_I a1)] [] (hz_0 q3) Q
  refine wp_s (i := .aload_n 0) (n := 1) (pc' := 17) (st' := [.ref 0]) rfl rfl ?_
  refine wq_gr (idx := 45) (a := 54) (pc' := 20) rfl rfl ho_O rfl rfl ?_
  refine wp_s (i := .aload_n 0) (n := 1) (pc' := 21) (st' := [.ref 0, .ref 54]) rfl rfl ?_
  obtain ⟨k4, H⟩ := dz_ck H
  refine wq_gd (idx := 31) (pc' := 24) rfl rfl ho_O rfl rfl ?_
  refine wq_cv (Dq := (D + 4)) (r' := mm_r6) (as0 := [.ref ((q3 0 3 0).toNat)]) (rest := []) (ls' := [some (.ref 54), some (.ref ((q3 0 3 0).toNat)), none, none, none, none]) (pc' := 27) rfl rfl rfl rfl ho_C rfl rfl rfl ?_
  refine jw_C_farFromTune (X := X) (D := D + 3) ((q3 0 3 0).toNat) k4 q3 (dz_pm (dz_bi H) (fun q5 H => ?_))
  show mm_Wp X (D + 5) mm_r115 27 [some (.ref 0), some (dz_I a1)] [dz_I q5] (hz_0 q3) Q
  refine wq_ri rfl rfl ?_
  replace H := dz_sm H
  exact H
-- 85
def jf_O_far (a1 : Int) (Z : dz_Z) : Option (Int × dz_Z) := Option.bind (jf_O_isShower a1 Z) fun q1 => if q1 = false then (some ((-1), Z)) else (Option.bind (jf_O_distance a1 Z) fun q3 => some (q3.1, q3.2))
set_option maxRecDepth 20000 in
theorem jw_O_far {X : Option (List Int32)} {D : Nat} {Q : Option Value → mm_H → Prop} (a1 : Int) (Z : dz_Z) (H : dz_p (jf_O_far a1 Z) (fun q => Q (some (dz_I q.1)) (hz_0 q.2))) : mm_Wp X (D + 6) mm_r85 0 [some (.ref 0), some (dz_I a1)] [] (hz_0 Z) Q := by
  unfold jf_O_far at H
  refine wp_s (i := .aload_n 0) (n := 1) (pc' := 1) (st' := [.ref 0]) rfl rfl ?_
  refine wp_s (i := .iload_n 1) (n := 1) (pc' := 2) (st' := [dz_I a1, .ref 0]) rfl rfl ?_
  refine wq_cv (Dq := (D + 5)) (r' := mm_r105) (as0 := [dz_I a1]) (rest := []) (ls' := [some (.ref 0), some (dz_I a1)]) (pc' := 5) rfl rfl rfl rfl ho_O rfl rfl rfl ?_
  refine jw_O_isShower (X := X) (D := D + 5) a1 Z (dz_pm (dz_bi H) (fun q1 H => ?_))
  show mm_Wp X (D + 6) mm_r85 5 [some (.ref 0), some (dz_I a1)] [dz_B q1] (hz_0 Z) Q
  refine wq_if (p := q1 = false) (tt := 16) (pc' := 8) rfl rfl (cb_eq) rfl (fun c2 => ?_) (fun c2 => ?_)
  · replace H := dz_it c2 H
    refine wp_s (i := .iconst (-1)) (n := 1) (pc' := 17) (st' := [dz_I (-1)]) rfl rfl ?_
    refine wq_ri rfl rfl ?_
    replace H := dz_sm H
    exact H
  · replace H := dz_if c2 H
    refine wp_s (i := .aload_n 0) (n := 1) (pc' := 9) (st' := [.ref 0]) rfl rfl ?_
    refine wp_s (i := .iload_n 1) (n := 1) (pc' := 10) (st' := [dz_I a1, .ref 0]) rfl rfl ?_
    refine wq_cv (Dq := (D + 5)) (r' := mm_r115) (as0 := [dz_I a1]) (rest := []) (ls' := [some (.ref 0), some (dz_I a1)]) (pc' := 13) rfl rfl rfl rfl ho_O rfl rfl rfl ?_
    refine jw_O_distance (X := X) (D := D + 0) a1 Z (dz_pm (dz_bi H) (fun q3 H => ?_))
    show mm_Wp X (D + 6) mm_r85 13 [some (.ref 0), some (dz_I a1)] [dz_I q3.1] (hz_0 q3.2) Q
    refine wp_s (i := .goto 4) (n := 3) (pc' := 17) (st' := [dz_I q3.1]) rfl rfl ?_
    refine wq_ri rfl rfl ?_
    replace H := dz_sm H
    exact H
-- 116
def jf_O_chooseForShower (a1 : Int) (a2 : Int) (Z : dz_Z) : Option (dz_Z) := if hz_isS (Z 0 3 0).toNat then if hz_isP (Z 0 2 0).toNat then Option.bind (jf_S_pegsAsNumber ((Z 0 3 0).toNat) (Z ((Z 0 2 0).toNat) 3 0) Z) fun q3 => Option.bind (jf_O_manySettings Z) fun q4 => Option.bind (jf_K_begin q3 (Z ((Z 0 2 0).toNat) 3 0) Z) fun q5 => dz_lp (fun (s6 : Int × dz_Z) => if dz_c q4 ≤ dz_c s6.1 then (if hz_isS (s6.2 0 3 0).toNat then if hz_isP (s6.2 0 2 0).toNat then Option.bind (jf_S_setPegs ((s6.2 0 3 0).toNat) (s6.2 ((s6.2 0 2 0).toNat) 3 0) q3 s6.2) fun q10 => some (Sum.inr q10) else none else none) else (if hz_isS (s6.2 0 3 0).toNat then if hz_isP (s6.2 0 2 0).toNat then Option.bind (jf_S_setPegs ((s6.2 0 3 0).toNat) (s6.2 ((s6.2 0 2 0).toNat) 3 0) s6.1 s6.2) fun q13 => if hz_isP (q13 0 2 0).toNat then if hz_isS (q13 0 3 0).toNat then Option.bind (jf_C_perform ((q13 0 2 0).toNat) ((q13 0 3 0).toNat) a1 q13) fun q16 => if dz_c a2 = 0 then (if hz_isS (q16 0 3 0).toNat then Option.bind (jf_C_farFromTune ((q16 0 3 0).toNat) q16) fun q19 => Option.bind (jf_K_offer s6.1 q19 q16) fun q20 => some (Sum.inl (s6.1 + 1, q20)) else none) else (if hz_isP (q16 0 2 0).toNat then Option.bind (jf_C_wokenSleepers ((q16 0 2 0).toNat) q16) fun q22 => if dz_c q22 ≠ 0 then (some (Sum.inl (s6.1 + 1, q16))) else (if hz_isS (q16 0 3 0).toNat then Option.bind (jf_C_farFromTune ((q16 0 3 0).toNat) q16) fun q25 => Option.bind (jf_K_offer s6.1 q25 q16) fun q26 => some (Sum.inl (s6.1 + 1, q26)) else none) else none) else none else none else none else none)) 5000 (0, q5) else none else none
set_option maxRecDepth 20000 in
theorem jw_O_chooseForShower {X : Option (List Int32)} {D : Nat} {Q : Option Value → mm_H → Prop} (a1 : Int) (a2 : Int) (Z : dz_Z) (H : dz_p (jf_O_chooseForShower a1 a2 Z) (fun q => Q (none) (hz_0 q))) : mm_Wp X (D + 5) mm_r116 0 [some (.ref 0), some (dz_I a1), some (dz_I a2), none, none, none] [] (hz_0 Z) Q := by
  unfold jf_O_chooseForShower at H
  refine wp_s (i := .aload_n 0) (n := 1) (pc' := 1) (st' := [.ref 0]) rfl rfl ?_
  obtain ⟨k1, H⟩ := dz_ck H
  refine wq_gd (idx := 31) (pc' := 4) rfl rfl ho_O rfl rfl ?_
  refine wp_s (i := .aload_n 0) (n := 1) (pc' := 5) (st' := [.ref 0, .ref ((Z 0 3 0).toNat)]) rfl rfl ?_
  obtain ⟨k2, H⟩ := dz_ck H
  refine wq_gd (idx := 24) (pc' := 8) rfl rfl ho_O rfl rfl ?_
  refine wq_gi (idx := 111) (pc' := 11) rfl rfl (ho_P k2) rfl rfl ?_
  refine wq_cv (Dq := (D + 4)) (r' := mm_r55) (as0 := [dz_I (Z ((Z 0 2 0).toNat) 3 0)]) (rest := []) (ls' := [some (.ref ((Z 0 3 0).toNat)), some (dz_I (Z ((Z 0 2 0).toNat) 3 0)), none, none]) (pc' := 14) rfl rfl rfl rfl (ho_S k1) rfl rfl rfl ?_
  refine jw_S_pegsAsNumber (X := X) (D := D + 4) ((Z 0 3 0).toNat) k1 (Z ((Z 0 2 0).toNat) 3 0) Z (dz_pm (dz_bi H) (fun q3 H => ?_))
  show mm_Wp X (D + 5) mm_r116 14 [some (.ref 0), some (dz_I a1), some (dz_I a2), none, none, none] [dz_I q3] (hz_0 Z) Q
  refine wq_st (k := 3) (i := .istore_n 3) (n := 1) (ls' := [some (.ref 0), some (dz_I a1), some (dz_I a2), some (dz_I q3), none, none]) (pc' := 15) rfl rfl rfl rfl rfl ?_
  refine wp_s (i := .aload_n 0) (n := 1) (pc' := 16) (st' := [.ref 0]) rfl rfl ?_
  refine wq_cv (Dq := (D + 4)) (r' := mm_r114) (as0 := []) (rest := []) (ls' := [some (.ref 0), none, none]) (pc' := 19) rfl rfl rfl rfl ho_O rfl rfl rfl ?_
  refine jw_O_manySettings (X := X) (D := D + 4) Z (dz_pm (dz_bi H) (fun q4 H => ?_))
  show mm_Wp X (D + 5) mm_r116 19 [some (.ref 0), some (dz_I a1), some (dz_I a2), some (dz_I q3), none, none] [dz_I q4] (hz_0 Z) Q
  refine wq_st (k := 4) (i := .istore 4) (n := 2) (ls' := [some (.ref 0), some (dz_I a1), some (dz_I a2), some (dz_I q3), some (dz_I q4), none]) (pc' := 21) rfl rfl rfl rfl rfl ?_
  refine wp_s (i := .aload_n 0) (n := 1) (pc' := 22) (st' := [.ref 0]) rfl rfl ?_
  refine wq_gr (idx := 52) (a := 65) (pc' := 25) rfl rfl ho_O rfl rfl ?_
  refine wp_s (i := .iload_n 3) (n := 1) (pc' := 26) (st' := [dz_I q3, .ref 65]) rfl rfl ?_
  refine wp_s (i := .aload_n 0) (n := 1) (pc' := 27) (st' := [.ref 0, dz_I q3, .ref 65]) rfl rfl ?_
  refine wq_gd (idx := 24) (pc' := 30) rfl rfl ho_O rfl rfl ?_
  refine wq_gi (idx := 111) (pc' := 33) rfl rfl (ho_P k2) rfl rfl ?_
  refine wq_cv (Dq := (D + 4)) (r' := mm_r1) (as0 := [dz_I q3, dz_I (Z ((Z 0 2 0).toNat) 3 0)]) (rest := []) (ls' := [some (.ref 65), some (dz_I q3), some (dz_I (Z ((Z 0 2 0).toNat) 3 0))]) (pc' := 36) rfl rfl rfl rfl ho_K rfl rfl rfl ?_
  refine jw_K_begin (X := X) (D := D + 4) q3 (Z ((Z 0 2 0).toNat) 3 0) Z (dz_pm (dz_bi H) (fun q5 H => ?_))
  show mm_Wp X (D + 5) mm_r116 36 [some (.ref 0), some (dz_I a1), some (dz_I a2), some (dz_I q3), some (dz_I q4), none] [] (hz_0 q5) Q
  refine wp_s (i := .iconst 0) (n := 1) (pc' := 37) (st' := [dz_I 0]) rfl rfl ?_
  refine wq_st (k := 5) (i := .istore 5) (n := 2) (ls' := [some (.ref 0), some (dz_I a1), some (dz_I a2), some (dz_I q3), some (dz_I q4), some (dz_I 0)]) (pc' := 39) rfl rfl rfl rfl rfl ?_
  refine dz_lpi (P := fun (s6 : Int × dz_Z) => mm_Wp X (D + 5) mm_r116 39 [some (.ref 0), some (dz_I a1), some (dz_I a2), some (dz_I q3), some (dz_I q4), some (dz_I s6.1)] [] (hz_0 s6.2) Q) (fun s6 H => ?_) 5000 (0, q5) H
  refine wp_s (i := .iload 5) (n := 2) (pc' := 41) (st' := [dz_I s6.1]) rfl rfl ?_
  refine wp_s (i := .iload 4) (n := 2) (pc' := 43) (st' := [dz_I q4, dz_I s6.1]) rfl rfl ?_
  refine wq_ic (p := dz_c q4 ≤ dz_c s6.1) (tt := 122) (pc' := 46) rfl rfl (cq_ge rfl rfl) rfl (fun c7 => ?_) (fun c7 => ?_)
  · replace H := dz_it c7 H
    refine wp_s (i := .aload_n 0) (n := 1) (pc' := 123) (st' := [.ref 0]) rfl rfl ?_
    obtain ⟨k8, H⟩ := dz_ck H
    refine wq_gd (idx := 31) (pc' := 126) rfl rfl ho_O rfl rfl ?_
    refine wp_s (i := .aload_n 0) (n := 1) (pc' := 127) (st' := [.ref 0, .ref ((s6.2 0 3 0).toNat)]) rfl rfl ?_
    obtain ⟨k9, H⟩ := dz_ck H
    refine wq_gd (idx := 24) (pc' := 130) rfl rfl ho_O rfl rfl ?_
    refine wq_gi (idx := 111) (pc' := 133) rfl rfl (ho_P k9) rfl rfl ?_
    refine wp_s (i := .iload_n 3) (n := 1) (pc' := 134) (st' := [dz_I q3, dz_I (s6.2 ((s6.2 0 2 0).toNat) 3 0), .ref ((s6.2 0 3 0).toNat)]) rfl rfl ?_
    refine wq_cv (Dq := (D + 4)) (r' := mm_r56) (as0 := [dz_I (s6.2 ((s6.2 0 2 0).toNat) 3 0), dz_I q3]) (rest := []) (ls' := [some (.ref ((s6.2 0 3 0).toNat)), some (dz_I (s6.2 ((s6.2 0 2 0).toNat) 3 0)), some (dz_I q3), none, none]) (pc' := 137) rfl rfl rfl rfl (ho_S k8) rfl rfl rfl ?_
    refine jw_S_setPegs (X := X) (D := D + 4) ((s6.2 0 3 0).toNat) k8 (s6.2 ((s6.2 0 2 0).toNat) 3 0) q3 s6.2 (dz_pm (dz_bi H) (fun q10 H => ?_))
    show mm_Wp X (D + 5) mm_r116 137 [some (.ref 0), some (dz_I a1), some (dz_I a2), some (dz_I q3), some (dz_I q4), some (dz_I s6.1)] [] (hz_0 q10) Q
    refine wq_rv rfl rfl ?_
    replace H := dz_out H
    replace H := dz_sm H
    exact H
  · replace H := dz_if c7 H
    refine wp_s (i := .aload_n 0) (n := 1) (pc' := 47) (st' := [.ref 0]) rfl rfl ?_
    obtain ⟨k11, H⟩ := dz_ck H
    refine wq_gd (idx := 31) (pc' := 50) rfl rfl ho_O rfl rfl ?_
    refine wp_s (i := .aload_n 0) (n := 1) (pc' := 51) (st' := [.ref 0, .ref ((s6.2 0 3 0).toNat)]) rfl rfl ?_
    obtain ⟨k12, H⟩ := dz_ck H
    refine wq_gd (idx := 24) (pc' := 54) rfl rfl ho_O rfl rfl ?_
    refine wq_gi (idx := 111) (pc' := 57) rfl rfl (ho_P k12) rfl rfl ?_
    refine wp_s (i := .iload 5) (n := 2) (pc' := 59) (st' := [dz_I s6.1, dz_I (s6.2 ((s6.2 0 2 0).toNat) 3 0), .ref ((s6.2 0 3 0).toNat)]) rfl rfl ?_
    refine wq_cv (Dq := (D + 4)) (r' := mm_r56) (as0 := [dz_I (s6.2 ((s6.2 0 2 0).toNat) 3 0), dz_I s6.1]) (rest := []) (ls' := [some (.ref ((s6.2 0 3 0).toNat)), some (dz_I (s6.2 ((s6.2 0 2 0).toNat) 3 0)), some (dz_I s6.1), none, none]) (pc' := 62) rfl rfl rfl rfl (ho_S k11) rfl rfl rfl ?_
    refine jw_S_setPegs (X := X) (D := D + 4) ((s6.2 0 3 0).toNat) k11 (s6.2 ((s6.2 0 2 0).toNat) 3 0) s6.1 s6.2 (dz_pm (dz_bi H) (fun q13 H => ?_))
    show mm_Wp X (D + 5) mm_r116 62 [some (.ref 0), some (dz_I a1), some (dz_I a2), some (dz_I q3), some (dz_I q4), some (dz_I s6.1)] [] (hz_0 q13) Q
    refine wp_s (i := .aload_n 0) (n := 1) (pc' := 63) (st' := [.ref 0]) rfl rfl ?_
    refine wq_gr (idx := 45) (a := 54) (pc' := 66) rfl rfl ho_O rfl rfl ?_
    refine wp_s (i := .aload_n 0) (n := 1) (pc' := 67) (st' := [.ref 0, .ref 54]) rfl rfl ?_
    obtain ⟨k14, H⟩ := dz_ck H
    refine wq_gd (idx := 24) (pc' := 70) rfl rfl ho_O rfl rfl ?_
    refine wp_s (i := .aload_n 0) (n := 1) (pc' := 71) (st' := [.ref 0, .ref ((q13 0 2 0).toNat), .ref 54]) rfl rfl ?_
    obtain ⟨k15, H⟩ := dz_ck H
    refine wq_gd (idx := 31) (pc' := 74) rfl rfl ho_O rfl rfl ?_
    refine wp_s (i := .iload_n 1) (n := 1) (pc' := 75) (st' := [dz_I a1, .ref ((q13 0 3 0).toNat), .ref ((q13 0 2 0).toNat), .ref 54]) rfl rfl ?_
    refine wq_cv (Dq := (D + 4)) (r' := mm_r5) (as0 := [.ref ((q13 0 2 0).toNat), .ref ((q13 0 3 0).toNat), dz_I a1]) (rest := []) (ls' := [some (.ref 54), some (.ref ((q13 0 2 0).toNat)), some (.ref ((q13 0 3 0).toNat)), some (dz_I a1), none, none]) (pc' := 78) rfl rfl rfl rfl ho_C rfl rfl rfl ?_
    refine jw_C_perform (X := X) (D := D + 0) ((q13 0 2 0).toNat) k14 ((q13 0 3 0).toNat) k15 a1 q13 (dz_pm (dz_bi H) (fun q16 H => ?_))
    show mm_Wp X (D + 5) mm_r116 78 [some (.ref 0), some (dz_I a1), some (dz_I a2), some (dz_I q3), some (dz_I q4), some (dz_I s6.1)] [] (hz_0 q16) Q
    refine wp_s (i := .iload_n 2) (n := 1) (pc' := 79) (st' := [dz_I a2]) rfl rfl ?_
    refine wq_if (p := dz_c a2 = 0) (tt := 96) (pc' := 82) rfl rfl (cz_eq rfl) rfl (fun c17 => ?_) (fun c17 => ?_)
    · replace H := dz_it c17 H
      refine wp_s (i := .aload_n 0) (n := 1) (pc' := 97) (st' := [.ref 0]) rfl rfl ?_
      refine wq_gr (idx := 52) (a := 65) (pc' := 100) rfl rfl ho_O rfl rfl ?_
      refine wp_s (i := .iload 5) (n := 2) (pc' := 102) (st' := [dz_I s6.1, .ref 65]) rfl rfl ?_
      refine wp_s (i := .aload_n 0) (n := 1) (pc' := 103) (st' := [.ref 0, dz_I s6.1, .ref 65]) rfl rfl ?_
      refine wq_gr (idx := 45) (a := 54) (pc' := 106) rfl rfl ho_O rfl rfl ?_
      refine wp_s (i := .aload_n 0) (n := 1) (pc' := 107) (st' := [.ref 0, .ref 54, dz_I s6.1, .ref 65]) rfl rfl ?_
      obtain ⟨k18, H⟩ := dz_ck H
      refine wq_gd (idx := 31) (pc' := 110) rfl rfl ho_O rfl rfl ?_
      refine wq_cv (Dq := (D + 4)) (r' := mm_r6) (as0 := [.ref ((q16 0 3 0).toNat)]) (rest := [dz_I s6.1, .ref 65]) (ls' := [some (.ref 54), some (.ref ((q16 0 3 0).toNat)), none, none, none, none]) (pc' := 113) rfl rfl rfl rfl ho_C rfl rfl rfl ?_
      refine jw_C_farFromTune (X := X) (D := D + 3) ((q16 0 3 0).toNat) k18 q16 (dz_pm (dz_bi H) (fun q19 H => ?_))
      show mm_Wp X (D + 5) mm_r116 113 [some (.ref 0), some (dz_I a1), some (dz_I a2), some (dz_I q3), some (dz_I q4), some (dz_I s6.1)] [dz_I q19, dz_I s6.1, .ref 65] (hz_0 q16) Q
      refine wq_cv (Dq := (D + 4)) (r' := mm_r2) (as0 := [dz_I s6.1, dz_I q19]) (rest := []) (ls' := [some (.ref 65), some (dz_I s6.1), some (dz_I q19), none, none]) (pc' := 116) rfl rfl rfl rfl ho_K rfl rfl rfl ?_
      refine jw_K_offer (X := X) (D := D + 3) s6.1 q19 q16 (dz_pm (dz_bi H) (fun q20 H => ?_))
      show mm_Wp X (D + 5) mm_r116 116 [some (.ref 0), some (dz_I a1), some (dz_I a2), some (dz_I q3), some (dz_I q4), some (dz_I s6.1)] [] (hz_0 q20) Q
      refine wq_inc (k := 5) (d := 1) (x := s6.1) (ls' := [some (.ref 0), some (dz_I a1), some (dz_I a2), some (dz_I q3), some (dz_I q4), some (dz_I (s6.1 + 1))]) (pc' := 119) rfl rfl rfl rfl ?_
      refine wp_s (i := .goto (-80)) (n := 3) (pc' := 39) (st' := []) rfl rfl ?_
      replace H := dz_back H
      exact H
    · replace H := dz_if c17 H
      refine wp_s (i := .aload_n 0) (n := 1) (pc' := 83) (st' := [.ref 0]) rfl rfl ?_
      refine wq_gr (idx := 45) (a := 54) (pc' := 86) rfl rfl ho_O rfl rfl ?_
      refine wp_s (i := .aload_n 0) (n := 1) (pc' := 87) (st' := [.ref 0, .ref 54]) rfl rfl ?_
      obtain ⟨k21, H⟩ := dz_ck H
      refine wq_gd (idx := 24) (pc' := 90) rfl rfl ho_O rfl rfl ?_
      refine wq_cv (Dq := (D + 4)) (r' := mm_r8) (as0 := [.ref ((q16 0 2 0).toNat)]) (rest := []) (ls' := [some (.ref 54), some (.ref ((q16 0 2 0).toNat)), none, none, none]) (pc' := 93) rfl rfl rfl rfl ho_C rfl rfl rfl ?_
      refine jw_C_wokenSleepers (X := X) (D := D + 4) ((q16 0 2 0).toNat) k21 q16 (dz_pm (dz_bi H) (fun q22 H => ?_))
      show mm_Wp X (D + 5) mm_r116 93 [some (.ref 0), some (dz_I a1), some (dz_I a2), some (dz_I q3), some (dz_I q4), some (dz_I s6.1)] [dz_I q22] (hz_0 q16) Q
      refine wq_if (p := dz_c q22 ≠ 0) (tt := 116) (pc' := 96) rfl rfl (cz_ne rfl) rfl (fun c23 => ?_) (fun c23 => ?_)
      · replace H := dz_it c23 H
        refine wq_inc (k := 5) (d := 1) (x := s6.1) (ls' := [some (.ref 0), some (dz_I a1), some (dz_I a2), some (dz_I q3), some (dz_I q4), some (dz_I (s6.1 + 1))]) (pc' := 119) rfl rfl rfl rfl ?_
        refine wp_s (i := .goto (-80)) (n := 3) (pc' := 39) (st' := []) rfl rfl ?_
        replace H := dz_back H
        exact H
      · replace H := dz_if c23 H
        refine wp_s (i := .aload_n 0) (n := 1) (pc' := 97) (st' := [.ref 0]) rfl rfl ?_
        refine wq_gr (idx := 52) (a := 65) (pc' := 100) rfl rfl ho_O rfl rfl ?_
        refine wp_s (i := .iload 5) (n := 2) (pc' := 102) (st' := [dz_I s6.1, .ref 65]) rfl rfl ?_
        refine wp_s (i := .aload_n 0) (n := 1) (pc' := 103) (st' := [.ref 0, dz_I s6.1, .ref 65]) rfl rfl ?_
        refine wq_gr (idx := 45) (a := 54) (pc' := 106) rfl rfl ho_O rfl rfl ?_
        refine wp_s (i := .aload_n 0) (n := 1) (pc' := 107) (st' := [.ref 0, .ref 54, dz_I s6.1, .ref 65]) rfl rfl ?_
        obtain ⟨k24, H⟩ := dz_ck H
        refine wq_gd (idx := 31) (pc' := 110) rfl rfl ho_O rfl rfl ?_
        refine wq_cv (Dq := (D + 4)) (r' := mm_r6) (as0 := [.ref ((q16 0 3 0).toNat)]) (rest := [dz_I s6.1, .ref 65]) (ls' := [some (.ref 54), some (.ref ((q16 0 3 0).toNat)), none, none, none, none]) (pc' := 113) rfl rfl rfl rfl ho_C rfl rfl rfl ?_
        refine jw_C_farFromTune (X := X) (D := D + 3) ((q16 0 3 0).toNat) k24 q16 (dz_pm (dz_bi H) (fun q25 H => ?_))
        show mm_Wp X (D + 5) mm_r116 113 [some (.ref 0), some (dz_I a1), some (dz_I a2), some (dz_I q3), some (dz_I q4), some (dz_I s6.1)] [dz_I q25, dz_I s6.1, .ref 65] (hz_0 q16) Q
        refine wq_cv (Dq := (D + 4)) (r' := mm_r2) (as0 := [dz_I s6.1, dz_I q25]) (rest := []) (ls' := [some (.ref 65), some (dz_I s6.1), some (dz_I q25), none, none]) (pc' := 116) rfl rfl rfl rfl ho_K rfl rfl rfl ?_
        refine jw_K_offer (X := X) (D := D + 3) s6.1 q25 q16 (dz_pm (dz_bi H) (fun q26 H => ?_))
        show mm_Wp X (D + 5) mm_r116 116 [some (.ref 0), some (dz_I a1), some (dz_I a2), some (dz_I q3), some (dz_I q4), some (dz_I s6.1)] [] (hz_0 q26) Q
        refine wq_inc (k := 5) (d := 1) (x := s6.1) (ls' := [some (.ref 0), some (dz_I a1), some (dz_I a2), some (dz_I q3), some (dz_I q4), some (dz_I (s6.1 + 1))]) (pc' := 119) rfl rfl rfl rfl ?_
        refine wp_s (i := .goto (-80)) (n := 3) (pc' := 39) (st' := []) rfl rfl ?_
        replace H := dz_back H
        exact H
-- 86
def jf_O_best (a1 : Int) (a2 : Int) (Z : dz_Z) : Option (Int × dz_Z) := Option.bind (jf_O_isShower a1 Z) fun q1 => if q1 = false then (some ((-1), Z)) else (if dz_c a2 < 0 then (some ((-1), Z)) else (if dz_c a2 ≤ 2 then (Option.bind (jf_O_chooseForShower a1 0 Z) fun q5 => if dz_c a2 = 0 then (some (q5 65 0 0, q5)) else (if dz_c a2 = 1 then (some (q5 65 1 0, q5)) else (some (q5 65 2 0, q5)))) else (some ((-1), Z))))
set_option maxRecDepth 20000 in
theorem jw_O_best {X : Option (List Int32)} {D : Nat} {Q : Option Value → mm_H → Prop} (a1 : Int) (a2 : Int) (Z : dz_Z) (H : dz_p (jf_O_best a1 a2 Z) (fun q => Q (some (dz_I q.1)) (hz_0 q.2))) : mm_Wp X (D + 6) mm_r86 0 [some (.ref 0), some (dz_I a1), some (dz_I a2)] [] (hz_0 Z) Q := by
  unfold jf_O_best at H
  refine wp_s (i := .aload_n 0) (n := 1) (pc' := 1) (st' := [.ref 0]) rfl rfl ?_
  refine wp_s (i := .iload_n 1) (n := 1) (pc' := 2) (st' := [dz_I a1, .ref 0]) rfl rfl ?_
  refine wq_cv (Dq := (D + 5)) (r' := mm_r105) (as0 := [dz_I a1]) (rest := []) (ls' := [some (.ref 0), some (dz_I a1)]) (pc' := 5) rfl rfl rfl rfl ho_O rfl rfl rfl ?_
  refine jw_O_isShower (X := X) (D := D + 5) a1 Z (dz_pm (dz_bi H) (fun q1 H => ?_))
  show mm_Wp X (D + 6) mm_r86 5 [some (.ref 0), some (dz_I a1), some (dz_I a2)] [dz_B q1] (hz_0 Z) Q
  refine wq_if (p := q1 = false) (tt := 17) (pc' := 8) rfl rfl (cb_eq) rfl (fun c2 => ?_) (fun c2 => ?_)
  · replace H := dz_it c2 H
    refine wp_s (i := .iconst (-1)) (n := 1) (pc' := 18) (st' := [dz_I (-1)]) rfl rfl ?_
    refine wq_ri rfl rfl ?_
    replace H := dz_sm H
    exact H
  · replace H := dz_if c2 H
    refine wp_s (i := .iload_n 2) (n := 1) (pc' := 9) (st' := [dz_I a2]) rfl rfl ?_
    refine wq_if (p := dz_c a2 < 0) (tt := 17) (pc' := 12) rfl rfl (cz_lt rfl) rfl (fun c3 => ?_) (fun c3 => ?_)
    · replace H := dz_it c3 H
      refine wp_s (i := .iconst (-1)) (n := 1) (pc' := 18) (st' := [dz_I (-1)]) rfl rfl ?_
      refine wq_ri rfl rfl ?_
      replace H := dz_sm H
      exact H
    · replace H := dz_if c3 H
      refine wp_s (i := .iload_n 2) (n := 1) (pc' := 13) (st' := [dz_I a2]) rfl rfl ?_
      refine wp_s (i := .iconst 2) (n := 1) (pc' := 14) (st' := [dz_I 2, dz_I a2]) rfl rfl ?_
      refine wq_ic (p := dz_c a2 ≤ 2) (tt := 19) (pc' := 17) rfl rfl (cq_le rfl dk_2) rfl (fun c4 => ?_) (fun c4 => ?_)
      · replace H := dz_it c4 H
        refine wp_s (i := .aload_n 0) (n := 1) (pc' := 20) (st' := [.ref 0]) rfl rfl ?_
        refine wp_s (i := .iload_n 1) (n := 1) (pc' := 21) (st' := [dz_I a1, .ref 0]) rfl rfl ?_
        refine wp_s (i := .iconst 0) (n := 1) (pc' := 22) (st' := [dz_I 0, dz_I a1, .ref 0]) rfl rfl ?_
        refine wq_cv (Dq := (D + 5)) (r' := mm_r116) (as0 := [dz_I a1, dz_I 0]) (rest := []) (ls' := [some (.ref 0), some (dz_I a1), some (dz_I 0), none, none, none]) (pc' := 25) rfl rfl rfl rfl ho_O rfl rfl rfl ?_
        refine jw_O_chooseForShower (X := X) (D := D + 0) a1 0 Z (dz_pm (dz_bi H) (fun q5 H => ?_))
        show mm_Wp X (D + 6) mm_r86 25 [some (.ref 0), some (dz_I a1), some (dz_I a2)] [] (hz_0 q5) Q
        refine wp_s (i := .iload_n 2) (n := 1) (pc' := 26) (st' := [dz_I a2]) rfl rfl ?_
        by_cases c6 : dz_c a2 = 0
        · replace H := dz_it c6 H
          refine wq_lk (x' := dz_c a2) (tt := 52) rfl (by decide) rfl (by rw [c6]; rfl) ?_
          refine wp_s (i := .aload_n 0) (n := 1) (pc' := 53) (st' := [.ref 0]) rfl rfl ?_
          refine wq_gr (idx := 52) (a := 65) (pc' := 56) rfl rfl ho_O rfl rfl ?_
          refine wq_gi (idx := 261) (pc' := 59) rfl rfl ho_K rfl rfl ?_
          refine wq_ri rfl rfl ?_
          replace H := dz_sm H
          exact H
        · replace H := dz_if c6 H
          by_cases c7 : dz_c a2 = 1
          · replace H := dz_it c7 H
            refine wq_lk (x' := dz_c a2) (tt := 60) rfl (by decide) rfl (by rw [c7]; rfl) ?_
            refine wp_s (i := .aload_n 0) (n := 1) (pc' := 61) (st' := [.ref 0]) rfl rfl ?_
            refine wq_gr (idx := 52) (a := 65) (pc' := 64) rfl rfl ho_O rfl rfl ?_
            refine wq_gi (idx := 264) (pc' := 67) rfl rfl ho_K rfl rfl ?_
            refine wq_ri rfl rfl ?_
            replace H := dz_sm H
            exact H
          · replace H := dz_if c7 H
            refine wq_lk (x' := dz_c a2) (tt := 68) rfl (by decide) rfl (by show mm_tg _ (Op.lookupswitch.offset [(0, 26), (1, 34)] 42 _) = _; rw [Op.lookupswitch.offset_cons, if_neg (by omega), Op.lookupswitch.offset_cons, if_neg (by omega)]; rfl) ?_
            refine wp_s (i := .aload_n 0) (n := 1) (pc' := 69) (st' := [.ref 0]) rfl rfl ?_
            refine wq_gr (idx := 52) (a := 65) (pc' := 72) rfl rfl ho_O rfl rfl ?_
            refine wq_gi (idx := 267) (pc' := 75) rfl rfl ho_K rfl rfl ?_
            refine wq_ri rfl rfl ?_
            replace H := dz_sm H
            exact H
      · replace H := dz_if c4 H
        refine wp_s (i := .iconst (-1)) (n := 1) (pc' := 18) (st' := [dz_I (-1)]) rfl rfl ?_
        refine wq_ri rfl rfl ?_
        replace H := dz_sm H
        exact H
-- 87
def jf_O_fewest (a1 : Int) (a2 : Int) (Z : dz_Z) : Option (Int × dz_Z) := Option.bind (jf_O_isShower a1 Z) fun q1 => if q1 = false then (some ((-1), Z)) else (if dz_c a2 < 0 then (some ((-1), Z)) else (if dz_c a2 ≤ 1 then (Option.bind (jf_O_chooseForShower a1 0 Z) fun q5 => if dz_c a2 ≠ 0 then (some (q5 65 5 0, q5)) else (some (q5 65 4 0, q5))) else (some ((-1), Z))))
set_option maxRecDepth 20000 in
theorem jw_O_fewest {X : Option (List Int32)} {D : Nat} {Q : Option Value → mm_H → Prop} (a1 : Int) (a2 : Int) (Z : dz_Z) (H : dz_p (jf_O_fewest a1 a2 Z) (fun q => Q (some (dz_I q.1)) (hz_0 q.2))) : mm_Wp X (D + 6) mm_r87 0 [some (.ref 0), some (dz_I a1), some (dz_I a2)] [] (hz_0 Z) Q := by
  unfold jf_O_fewest at H
  refine wp_s (i := .aload_n 0) (n := 1) (pc' := 1) (st' := [.ref 0]) rfl rfl ?_
  refine wp_s (i := .iload_n 1) (n := 1) (pc' := 2) (st' := [dz_I a1, .ref 0]) rfl rfl ?_
  refine wq_cv (Dq := (D + 5)) (r' := mm_r105) (as0 := [dz_I a1]) (rest := []) (ls' := [some (.ref 0), some (dz_I a1)]) (pc' := 5) rfl rfl rfl rfl ho_O rfl rfl rfl ?_
  refine jw_O_isShower (X := X) (D := D + 5) a1 Z (dz_pm (dz_bi H) (fun q1 H => ?_))
  show mm_Wp X (D + 6) mm_r87 5 [some (.ref 0), some (dz_I a1), some (dz_I a2)] [dz_B q1] (hz_0 Z) Q
  refine wq_if (p := q1 = false) (tt := 17) (pc' := 8) rfl rfl (cb_eq) rfl (fun c2 => ?_) (fun c2 => ?_)
  · replace H := dz_it c2 H
    refine wp_s (i := .iconst (-1)) (n := 1) (pc' := 18) (st' := [dz_I (-1)]) rfl rfl ?_
    refine wq_ri rfl rfl ?_
    replace H := dz_sm H
    exact H
  · replace H := dz_if c2 H
    refine wp_s (i := .iload_n 2) (n := 1) (pc' := 9) (st' := [dz_I a2]) rfl rfl ?_
    refine wq_if (p := dz_c a2 < 0) (tt := 17) (pc' := 12) rfl rfl (cz_lt rfl) rfl (fun c3 => ?_) (fun c3 => ?_)
    · replace H := dz_it c3 H
      refine wp_s (i := .iconst (-1)) (n := 1) (pc' := 18) (st' := [dz_I (-1)]) rfl rfl ?_
      refine wq_ri rfl rfl ?_
      replace H := dz_sm H
      exact H
    · replace H := dz_if c3 H
      refine wp_s (i := .iload_n 2) (n := 1) (pc' := 13) (st' := [dz_I a2]) rfl rfl ?_
      refine wp_s (i := .iconst 1) (n := 1) (pc' := 14) (st' := [dz_I 1, dz_I a2]) rfl rfl ?_
      refine wq_ic (p := dz_c a2 ≤ 1) (tt := 19) (pc' := 17) rfl rfl (cq_le rfl dk_1) rfl (fun c4 => ?_) (fun c4 => ?_)
      · replace H := dz_it c4 H
        refine wp_s (i := .aload_n 0) (n := 1) (pc' := 20) (st' := [.ref 0]) rfl rfl ?_
        refine wp_s (i := .iload_n 1) (n := 1) (pc' := 21) (st' := [dz_I a1, .ref 0]) rfl rfl ?_
        refine wp_s (i := .iconst 0) (n := 1) (pc' := 22) (st' := [dz_I 0, dz_I a1, .ref 0]) rfl rfl ?_
        refine wq_cv (Dq := (D + 5)) (r' := mm_r116) (as0 := [dz_I a1, dz_I 0]) (rest := []) (ls' := [some (.ref 0), some (dz_I a1), some (dz_I 0), none, none, none]) (pc' := 25) rfl rfl rfl rfl ho_O rfl rfl rfl ?_
        refine jw_O_chooseForShower (X := X) (D := D + 0) a1 0 Z (dz_pm (dz_bi H) (fun q5 H => ?_))
        show mm_Wp X (D + 6) mm_r87 25 [some (.ref 0), some (dz_I a1), some (dz_I a2)] [] (hz_0 q5) Q
        refine wp_s (i := .iload_n 2) (n := 1) (pc' := 26) (st' := [dz_I a2]) rfl rfl ?_
        refine wq_if (p := dz_c a2 ≠ 0) (tt := 39) (pc' := 29) rfl rfl (cz_ne rfl) rfl (fun c6 => ?_) (fun c6 => ?_)
        · replace H := dz_it c6 H
          refine wp_s (i := .aload_n 0) (n := 1) (pc' := 40) (st' := [.ref 0]) rfl rfl ?_
          refine wq_gr (idx := 52) (a := 65) (pc' := 43) rfl rfl ho_O rfl rfl ?_
          refine wq_gi (idx := 273) (pc' := 46) rfl rfl ho_K rfl rfl ?_
          refine wq_ri rfl rfl ?_
          replace H := dz_sm H
          exact H
        · replace H := dz_if c6 H
          refine wp_s (i := .aload_n 0) (n := 1) (pc' := 30) (st' := [.ref 0]) rfl rfl ?_
          refine wq_gr (idx := 52) (a := 65) (pc' := 33) rfl rfl ho_O rfl rfl ?_
          refine wq_gi (idx := 270) (pc' := 36) rfl rfl ho_K rfl rfl ?_
          refine wp_s (i := .goto 10) (n := 3) (pc' := 46) (st' := [dz_I (q5 65 4 0)]) rfl rfl ?_
          refine wq_ri rfl rfl ?_
          replace H := dz_sm H
          exact H
      · replace H := dz_if c4 H
        refine wp_s (i := .iconst (-1)) (n := 1) (pc' := 18) (st' := [dz_I (-1)]) rfl rfl ?_
        refine wq_ri rfl rfl ?_
        replace H := dz_sm H
        exact H
-- 117
def jf_O_chooseForAllShowers (Z : dz_Z) : Option (dz_Z) := if hz_isS (Z 0 3 0).toNat then if hz_isP (Z 0 2 0).toNat then Option.bind (jf_S_pegsAsNumber ((Z 0 3 0).toNat) (Z ((Z 0 2 0).toNat) 3 0) Z) fun q3 => Option.bind (jf_O_manySettings Z) fun q4 => Option.bind (jf_K_begin q3 (Z ((Z 0 2 0).toNat) 3 0) Z) fun q5 => dz_lp (fun (s6 : Int × dz_Z) => if dz_c q4 ≤ dz_c s6.1 then (if hz_isS (s6.2 0 3 0).toNat then if hz_isP (s6.2 0 2 0).toNat then Option.bind (jf_S_setPegs ((s6.2 0 3 0).toNat) (s6.2 ((s6.2 0 2 0).toNat) 3 0) q3 s6.2) fun q12 => some (Sum.inr q12) else none else none) else (if hz_isS (s6.2 0 3 0).toNat then if hz_isP (s6.2 0 2 0).toNat then Option.bind (jf_S_setPegs ((s6.2 0 3 0).toNat) (s6.2 ((s6.2 0 2 0).toNat) 3 0) s6.1 s6.2) fun q15 => dz_lp (fun (s16 : Int × Int × dz_Z) => if hz_isP (s16.2.2 0 2 0).toNat then if dz_c (s16.2.2 ((s16.2.2 0 2 0).toNat) 10 0) ≤ dz_c s16.2.1 then (Option.bind (jf_K_offer s6.1 s16.1 s16.2.2) fun q19 => some (Sum.inr (Sum.inl (s6.1 + 1, q19)))) else (if hz_isS (s16.2.2 0 3 0).toNat then Option.bind (jf_C_perform ((s16.2.2 0 2 0).toNat) ((s16.2.2 0 3 0).toNat) s16.2.1 s16.2.2) fun q21 => if hz_isS (q21 0 3 0).toNat then Option.bind (jf_C_farFromTune ((q21 0 3 0).toNat) q21) fun q23 => some (Sum.inl (s16.1 + q23, s16.2.1 + 1, q21)) else none else none) else none) 5000 (0, 0, q15) else none else none)) 5000 (0, q5) else none else none
set_option maxRecDepth 20000 in
theorem jw_O_chooseForAllShowers {X : Option (List Int32)} {D : Nat} {Q : Option Value → mm_H → Prop} (Z : dz_Z) (H : dz_p (jf_O_chooseForAllShowers Z) (fun q => Q (none) (hz_0 q))) : mm_Wp X (D + 5) mm_r117 0 [some (.ref 0), none, none, none, none, none] [] (hz_0 Z) Q := by
  unfold jf_O_chooseForAllShowers at H
  refine wp_s (i := .aload_n 0) (n := 1) (pc' := 1) (st' := [.ref 0]) rfl rfl ?_
  obtain ⟨k1, H⟩ := dz_ck H
  refine wq_gd (idx := 31) (pc' := 4) rfl rfl ho_O rfl rfl ?_
  refine wp_s (i := .aload_n 0) (n := 1) (pc' := 5) (st' := [.ref 0, .ref ((Z 0 3 0).toNat)]) rfl rfl ?_
  obtain ⟨k2, H⟩ := dz_ck H
  refine wq_gd (idx := 24) (pc' := 8) rfl rfl ho_O rfl rfl ?_
  refine wq_gi (idx := 111) (pc' := 11) rfl rfl (ho_P k2) rfl rfl ?_
  refine wq_cv (Dq := (D + 4)) (r' := mm_r55) (as0 := [dz_I (Z ((Z 0 2 0).toNat) 3 0)]) (rest := []) (ls' := [some (.ref ((Z 0 3 0).toNat)), some (dz_I (Z ((Z 0 2 0).toNat) 3 0)), none, none]) (pc' := 14) rfl rfl rfl rfl (ho_S k1) rfl rfl rfl ?_
  refine jw_S_pegsAsNumber (X := X) (D := D + 4) ((Z 0 3 0).toNat) k1 (Z ((Z 0 2 0).toNat) 3 0) Z (dz_pm (dz_bi H) (fun q3 H => ?_))
  show mm_Wp X (D + 5) mm_r117 14 [some (.ref 0), none, none, none, none, none] [dz_I q3] (hz_0 Z) Q
  refine wq_st (k := 1) (i := .istore_n 1) (n := 1) (ls' := [some (.ref 0), some (dz_I q3), none, none, none, none]) (pc' := 15) rfl rfl rfl rfl rfl ?_
  refine wp_s (i := .aload_n 0) (n := 1) (pc' := 16) (st' := [.ref 0]) rfl rfl ?_
  refine wq_cv (Dq := (D + 4)) (r' := mm_r114) (as0 := []) (rest := []) (ls' := [some (.ref 0), none, none]) (pc' := 19) rfl rfl rfl rfl ho_O rfl rfl rfl ?_
  refine jw_O_manySettings (X := X) (D := D + 4) Z (dz_pm (dz_bi H) (fun q4 H => ?_))
  show mm_Wp X (D + 5) mm_r117 19 [some (.ref 0), some (dz_I q3), none, none, none, none] [dz_I q4] (hz_0 Z) Q
  refine wq_st (k := 2) (i := .istore_n 2) (n := 1) (ls' := [some (.ref 0), some (dz_I q3), some (dz_I q4), none, none, none]) (pc' := 20) rfl rfl rfl rfl rfl ?_
  refine wp_s (i := .aload_n 0) (n := 1) (pc' := 21) (st' := [.ref 0]) rfl rfl ?_
  refine wq_gr (idx := 52) (a := 65) (pc' := 24) rfl rfl ho_O rfl rfl ?_
  refine wp_s (i := .iload_n 1) (n := 1) (pc' := 25) (st' := [dz_I q3, .ref 65]) rfl rfl ?_
  refine wp_s (i := .aload_n 0) (n := 1) (pc' := 26) (st' := [.ref 0, dz_I q3, .ref 65]) rfl rfl ?_
  refine wq_gd (idx := 24) (pc' := 29) rfl rfl ho_O rfl rfl ?_
  refine wq_gi (idx := 111) (pc' := 32) rfl rfl (ho_P k2) rfl rfl ?_
  refine wq_cv (Dq := (D + 4)) (r' := mm_r1) (as0 := [dz_I q3, dz_I (Z ((Z 0 2 0).toNat) 3 0)]) (rest := []) (ls' := [some (.ref 65), some (dz_I q3), some (dz_I (Z ((Z 0 2 0).toNat) 3 0))]) (pc' := 35) rfl rfl rfl rfl ho_K rfl rfl rfl ?_
  refine jw_K_begin (X := X) (D := D + 4) q3 (Z ((Z 0 2 0).toNat) 3 0) Z (dz_pm (dz_bi H) (fun q5 H => ?_))
  show mm_Wp X (D + 5) mm_r117 35 [some (.ref 0), some (dz_I q3), some (dz_I q4), none, none, none] [] (hz_0 q5) Q
  refine wp_s (i := .iconst 0) (n := 1) (pc' := 36) (st' := [dz_I 0]) rfl rfl ?_
  refine wq_st (k := 3) (i := .istore_n 3) (n := 1) (ls' := [some (.ref 0), some (dz_I q3), some (dz_I q4), some (dz_I 0), none, none]) (pc' := 37) rfl rfl rfl rfl rfl ?_
  refine dz_lpi (P := fun (s6 : Int × dz_Z) => ∀ (u7 u8 : Option Int32), mm_Wp X (D + 5) mm_r117 37 [some (.ref 0), some (dz_I q3), some (dz_I q4), some (dz_I s6.1), Option.map Value.int u7, Option.map Value.int u8] [] (hz_0 s6.2) Q) (fun s6 H => ?_) 5000 (0, q5) H none none
  intro u7 u8
  refine wp_s (i := .iload_n 3) (n := 1) (pc' := 38) (st' := [dz_I s6.1]) rfl rfl ?_
  refine wp_s (i := .iload_n 2) (n := 1) (pc' := 39) (st' := [dz_I q4, dz_I s6.1]) rfl rfl ?_
  refine wq_ic (p := dz_c q4 ≤ dz_c s6.1) (tt := 130) (pc' := 42) rfl rfl (cq_ge rfl rfl) rfl (fun c9 => ?_) (fun c9 => ?_)
  · replace H := dz_it c9 H
    refine wp_s (i := .aload_n 0) (n := 1) (pc' := 131) (st' := [.ref 0]) rfl rfl ?_
    obtain ⟨k10, H⟩ := dz_ck H
    refine wq_gd (idx := 31) (pc' := 134) rfl rfl ho_O rfl rfl ?_
    refine wp_s (i := .aload_n 0) (n := 1) (pc' := 135) (st' := [.ref 0, .ref ((s6.2 0 3 0).toNat)]) rfl rfl ?_
    obtain ⟨k11, H⟩ := dz_ck H
    refine wq_gd (idx := 24) (pc' := 138) rfl rfl ho_O rfl rfl ?_
    refine wq_gi (idx := 111) (pc' := 141) rfl rfl (ho_P k11) rfl rfl ?_
    refine wp_s (i := .iload_n 1) (n := 1) (pc' := 142) (st' := [dz_I q3, dz_I (s6.2 ((s6.2 0 2 0).toNat) 3 0), .ref ((s6.2 0 3 0).toNat)]) rfl rfl ?_
    refine wq_cv (Dq := (D + 4)) (r' := mm_r56) (as0 := [dz_I (s6.2 ((s6.2 0 2 0).toNat) 3 0), dz_I q3]) (rest := []) (ls' := [some (.ref ((s6.2 0 3 0).toNat)), some (dz_I (s6.2 ((s6.2 0 2 0).toNat) 3 0)), some (dz_I q3), none, none]) (pc' := 145) rfl rfl rfl rfl (ho_S k10) rfl rfl rfl ?_
    refine jw_S_setPegs (X := X) (D := D + 4) ((s6.2 0 3 0).toNat) k10 (s6.2 ((s6.2 0 2 0).toNat) 3 0) q3 s6.2 (dz_pm (dz_bi H) (fun q12 H => ?_))
    show mm_Wp X (D + 5) mm_r117 145 [some (.ref 0), some (dz_I q3), some (dz_I q4), some (dz_I s6.1), Option.map Value.int u7, Option.map Value.int u8] [] (hz_0 q12) Q
    refine wq_rv rfl rfl ?_
    replace H := dz_out H
    replace H := dz_sm H
    exact H
  · replace H := dz_if c9 H
    refine wp_s (i := .aload_n 0) (n := 1) (pc' := 43) (st' := [.ref 0]) rfl rfl ?_
    obtain ⟨k13, H⟩ := dz_ck H
    refine wq_gd (idx := 31) (pc' := 46) rfl rfl ho_O rfl rfl ?_
    refine wp_s (i := .aload_n 0) (n := 1) (pc' := 47) (st' := [.ref 0, .ref ((s6.2 0 3 0).toNat)]) rfl rfl ?_
    obtain ⟨k14, H⟩ := dz_ck H
    refine wq_gd (idx := 24) (pc' := 50) rfl rfl ho_O rfl rfl ?_
    refine wq_gi (idx := 111) (pc' := 53) rfl rfl (ho_P k14) rfl rfl ?_
    refine wp_s (i := .iload_n 3) (n := 1) (pc' := 54) (st' := [dz_I s6.1, dz_I (s6.2 ((s6.2 0 2 0).toNat) 3 0), .ref ((s6.2 0 3 0).toNat)]) rfl rfl ?_
    refine wq_cv (Dq := (D + 4)) (r' := mm_r56) (as0 := [dz_I (s6.2 ((s6.2 0 2 0).toNat) 3 0), dz_I s6.1]) (rest := []) (ls' := [some (.ref ((s6.2 0 3 0).toNat)), some (dz_I (s6.2 ((s6.2 0 2 0).toNat) 3 0)), some (dz_I s6.1), none, none]) (pc' := 57) rfl rfl rfl rfl (ho_S k13) rfl rfl rfl ?_
    refine jw_S_setPegs (X := X) (D := D + 4) ((s6.2 0 3 0).toNat) k13 (s6.2 ((s6.2 0 2 0).toNat) 3 0) s6.1 s6.2 (dz_pm (dz_bi H) (fun q15 H => ?_))
    show mm_Wp X (D + 5) mm_r117 57 [some (.ref 0), some (dz_I q3), some (dz_I q4), some (dz_I s6.1), Option.map Value.int u7, Option.map Value.int u8] [] (hz_0 q15) Q
    refine wp_s (i := .iconst 0) (n := 1) (pc' := 58) (st' := [dz_I 0]) rfl rfl ?_
    refine wq_st (k := 4) (i := .istore 4) (n := 2) (ls' := [some (.ref 0), some (dz_I q3), some (dz_I q4), some (dz_I s6.1), some (dz_I 0), Option.map Value.int u8]) (pc' := 60) rfl rfl rfl rfl rfl ?_
    refine wp_s (i := .iconst 0) (n := 1) (pc' := 61) (st' := [dz_I 0]) rfl rfl ?_
    refine wq_st (k := 5) (i := .istore 5) (n := 2) (ls' := [some (.ref 0), some (dz_I q3), some (dz_I q4), some (dz_I s6.1), some (dz_I 0), some (dz_I 0)]) (pc' := 63) rfl rfl rfl rfl rfl ?_
    refine dz_lpi (P := fun (s16 : Int × Int × dz_Z) => mm_Wp X (D + 5) mm_r117 63 [some (.ref 0), some (dz_I q3), some (dz_I q4), some (dz_I s6.1), some (dz_I s16.1), some (dz_I s16.2.1)] [] (hz_0 s16.2.2) Q) (fun s16 H => ?_) 5000 (0, 0, q15) H
    refine wp_s (i := .iload 5) (n := 2) (pc' := 65) (st' := [dz_I s16.2.1]) rfl rfl ?_
    refine wp_s (i := .aload_n 0) (n := 1) (pc' := 66) (st' := [.ref 0, dz_I s16.2.1]) rfl rfl ?_
    obtain ⟨k17, H⟩ := dz_ck H
    refine wq_gd (idx := 24) (pc' := 69) rfl rfl ho_O rfl rfl ?_
    refine wq_gi (idx := 117) (pc' := 72) rfl rfl (ho_P k17) rfl rfl ?_
    refine wq_ic (p := dz_c (s16.2.2 ((s16.2.2 0 2 0).toNat) 10 0) ≤ dz_c s16.2.1) (tt := 114) (pc' := 75) rfl rfl (cq_ge rfl rfl) rfl (fun c18 => ?_) (fun c18 => ?_)
    · replace H := dz_it c18 H
      refine wp_s (i := .aload_n 0) (n := 1) (pc' := 115) (st' := [.ref 0]) rfl rfl ?_
      refine wq_gr (idx := 52) (a := 65) (pc' := 118) rfl rfl ho_O rfl rfl ?_
      refine wp_s (i := .iload_n 3) (n := 1) (pc' := 119) (st' := [dz_I s6.1, .ref 65]) rfl rfl ?_
      refine wp_s (i := .iload 4) (n := 2) (pc' := 121) (st' := [dz_I s16.1, dz_I s6.1, .ref 65]) rfl rfl ?_
      refine wq_cv (Dq := (D + 4)) (r' := mm_r2) (as0 := [dz_I s6.1, dz_I s16.1]) (rest := []) (ls' := [some (.ref 65), some (dz_I s6.1), some (dz_I s16.1), none, none]) (pc' := 124) rfl rfl rfl rfl ho_K rfl rfl rfl ?_
      refine jw_K_offer (X := X) (D := D + 3) s6.1 s16.1 s16.2.2 (dz_pm (dz_bi H) (fun q19 H => ?_))
      show mm_Wp X (D + 5) mm_r117 124 [some (.ref 0), some (dz_I q3), some (dz_I q4), some (dz_I s6.1), some (dz_I s16.1), some (dz_I s16.2.1)] [] (hz_0 q19) Q
      refine wq_inc (k := 3) (d := 1) (x := s6.1) (ls' := [some (.ref 0), some (dz_I q3), some (dz_I q4), some (dz_I (s6.1 + 1)), some (dz_I s16.1), some (dz_I s16.2.1)]) (pc' := 127) rfl rfl rfl rfl ?_
      refine wp_s (i := .goto (-90)) (n := 3) (pc' := 37) (st' := []) rfl rfl ?_
      replace H := dz_out H
      replace H := dz_back H
      exact H (some (Int32.ofInt s16.1)) (some (Int32.ofInt s16.2.1))
    · replace H := dz_if c18 H
      refine wp_s (i := .aload_n 0) (n := 1) (pc' := 76) (st' := [.ref 0]) rfl rfl ?_
      refine wq_gr (idx := 45) (a := 54) (pc' := 79) rfl rfl ho_O rfl rfl ?_
      refine wp_s (i := .aload_n 0) (n := 1) (pc' := 80) (st' := [.ref 0, .ref 54]) rfl rfl ?_
      refine wq_gd (idx := 24) (pc' := 83) rfl rfl ho_O rfl rfl ?_
      refine wp_s (i := .aload_n 0) (n := 1) (pc' := 84) (st' := [.ref 0, .ref ((s16.2.2 0 2 0).toNat), .ref 54]) rfl rfl ?_
      obtain ⟨k20, H⟩ := dz_ck H
      refine wq_gd (idx := 31) (pc' := 87) rfl rfl ho_O rfl rfl ?_
      refine wp_s (i := .iload 5) (n := 2) (pc' := 89) (st' := [dz_I s16.2.1, .ref ((s16.2.2 0 3 0).toNat), .ref ((s16.2.2 0 2 0).toNat), .ref 54]) rfl rfl ?_
      refine wq_cv (Dq := (D + 4)) (r' := mm_r5) (as0 := [.ref ((s16.2.2 0 2 0).toNat), .ref ((s16.2.2 0 3 0).toNat), dz_I s16.2.1]) (rest := []) (ls' := [some (.ref 54), some (.ref ((s16.2.2 0 2 0).toNat)), some (.ref ((s16.2.2 0 3 0).toNat)), some (dz_I s16.2.1), none, none]) (pc' := 92) rfl rfl rfl rfl ho_C rfl rfl rfl ?_
      refine jw_C_perform (X := X) (D := D + 0) ((s16.2.2 0 2 0).toNat) k17 ((s16.2.2 0 3 0).toNat) k20 s16.2.1 s16.2.2 (dz_pm (dz_bi H) (fun q21 H => ?_))
      show mm_Wp X (D + 5) mm_r117 92 [some (.ref 0), some (dz_I q3), some (dz_I q4), some (dz_I s6.1), some (dz_I s16.1), some (dz_I s16.2.1)] [] (hz_0 q21) Q
      refine wp_s (i := .iload 4) (n := 2) (pc' := 94) (st' := [dz_I s16.1]) rfl rfl ?_
      refine wp_s (i := .aload_n 0) (n := 1) (pc' := 95) (st' := [.ref 0, dz_I s16.1]) rfl rfl ?_
      refine wq_gr (idx := 45) (a := 54) (pc' := 98) rfl rfl ho_O rfl rfl ?_
      refine wp_s (i := .aload_n 0) (n := 1) (pc' := 99) (st' := [.ref 0, .ref 54, dz_I s16.1]) rfl rfl ?_
      obtain ⟨k22, H⟩ := dz_ck H
      refine wq_gd (idx := 31) (pc' := 102) rfl rfl ho_O rfl rfl ?_
      refine wq_cv (Dq := (D + 4)) (r' := mm_r6) (as0 := [.ref ((q21 0 3 0).toNat)]) (rest := [dz_I s16.1]) (ls' := [some (.ref 54), some (.ref ((q21 0 3 0).toNat)), none, none, none, none]) (pc' := 105) rfl rfl rfl rfl ho_C rfl rfl rfl ?_
      refine jw_C_farFromTune (X := X) (D := D + 3) ((q21 0 3 0).toNat) k22 q21 (dz_pm (dz_bi H) (fun q23 H => ?_))
      show mm_Wp X (D + 5) mm_r117 105 [some (.ref 0), some (dz_I q3), some (dz_I q4), some (dz_I s6.1), some (dz_I s16.1), some (dz_I s16.2.1)] [dz_I q23, dz_I s16.1] (hz_0 q21) Q
      refine wq_2 (i := .iadd) (z := s16.1 + q23) (pc' := 106) rfl rfl (op_add _ _) rfl ?_
      refine wq_st (k := 4) (i := .istore 4) (n := 2) (ls' := [some (.ref 0), some (dz_I q3), some (dz_I q4), some (dz_I s6.1), some (dz_I (s16.1 + q23)), some (dz_I s16.2.1)]) (pc' := 108) rfl rfl rfl rfl rfl ?_
      refine wq_inc (k := 5) (d := 1) (x := s16.2.1) (ls' := [some (.ref 0), some (dz_I q3), some (dz_I q4), some (dz_I s6.1), some (dz_I (s16.1 + q23)), some (dz_I (s16.2.1 + 1))]) (pc' := 111) rfl rfl rfl rfl ?_
      refine wp_s (i := .goto (-48)) (n := 3) (pc' := 63) (st' := []) rfl rfl ?_
      replace H := dz_back H
      exact H
-- 88
def jf_O_all (a1 : Int) (Z : dz_Z) : Option (Int × dz_Z) := if dz_c a1 < 0 then (some ((-1), Z)) else (if dz_c a1 ≤ 1 then (if hz_isP (Z 0 2 0).toNat then if dz_c (Z ((Z 0 2 0).toNat) 10 0) ≠ 0 then (Option.bind (jf_O_chooseForAllShowers Z) fun q5 => if dz_c a1 ≠ 0 then (some (q5 65 1 0, q5)) else (some (q5 65 0 0, q5))) else (some ((-2), Z)) else none) else (some ((-1), Z)))
set_option maxRecDepth 20000 in
theorem jw_O_all {X : Option (List Int32)} {D : Nat} {Q : Option Value → mm_H → Prop} (a1 : Int) (Z : dz_Z) (H : dz_p (jf_O_all a1 Z) (fun q => Q (some (dz_I q.1)) (hz_0 q.2))) : mm_Wp X (D + 6) mm_r88 0 [some (.ref 0), some (dz_I a1)] [] (hz_0 Z) Q := by
  unfold jf_O_all at H
  refine wp_s (i := .iload_n 1) (n := 1) (pc' := 1) (st' := [dz_I a1]) rfl rfl ?_
  refine wq_if (p := dz_c a1 < 0) (tt := 9) (pc' := 4) rfl rfl (cz_lt rfl) rfl (fun c1 => ?_) (fun c1 => ?_)
  · replace H := dz_it c1 H
    refine wp_s (i := .iconst (-1)) (n := 1) (pc' := 10) (st' := [dz_I (-1)]) rfl rfl ?_
    refine wq_ri rfl rfl ?_
    replace H := dz_sm H
    exact H
  · replace H := dz_if c1 H
    refine wp_s (i := .iload_n 1) (n := 1) (pc' := 5) (st' := [dz_I a1]) rfl rfl ?_
    refine wp_s (i := .iconst 1) (n := 1) (pc' := 6) (st' := [dz_I 1, dz_I a1]) rfl rfl ?_
    refine wq_ic (p := dz_c a1 ≤ 1) (tt := 11) (pc' := 9) rfl rfl (cq_le rfl dk_1) rfl (fun c2 => ?_) (fun c2 => ?_)
    · replace H := dz_it c2 H
      refine wp_s (i := .aload_n 0) (n := 1) (pc' := 12) (st' := [.ref 0]) rfl rfl ?_
      obtain ⟨k3, H⟩ := dz_ck H
      refine wq_gd (idx := 24) (pc' := 15) rfl rfl ho_O rfl rfl ?_
      refine wq_gi (idx := 117) (pc' := 18) rfl rfl (ho_P k3) rfl rfl ?_
      refine wq_if (p := dz_c (Z ((Z 0 2 0).toNat) 10 0) ≠ 0) (tt := 24) (pc' := 21) rfl rfl (cz_ne rfl) rfl (fun c4 => ?_) (fun c4 => ?_)
      · replace H := dz_it c4 H
        refine wp_s (i := .aload_n 0) (n := 1) (pc' := 25) (st' := [.ref 0]) rfl rfl ?_
        refine wq_cv (Dq := (D + 5)) (r' := mm_r117) (as0 := []) (rest := []) (ls' := [some (.ref 0), none, none, none, none, none]) (pc' := 28) rfl rfl rfl rfl ho_O rfl rfl rfl ?_
        refine jw_O_chooseForAllShowers (X := X) (D := D + 0) Z (dz_pm (dz_bi H) (fun q5 H => ?_))
        show mm_Wp X (D + 6) mm_r88 28 [some (.ref 0), some (dz_I a1)] [] (hz_0 q5) Q
        refine wp_s (i := .iload_n 1) (n := 1) (pc' := 29) (st' := [dz_I a1]) rfl rfl ?_
        refine wq_if (p := dz_c a1 ≠ 0) (tt := 42) (pc' := 32) rfl rfl (cz_ne rfl) rfl (fun c6 => ?_) (fun c6 => ?_)
        · replace H := dz_it c6 H
          refine wp_s (i := .aload_n 0) (n := 1) (pc' := 43) (st' := [.ref 0]) rfl rfl ?_
          refine wq_gr (idx := 52) (a := 65) (pc' := 46) rfl rfl ho_O rfl rfl ?_
          refine wq_gi (idx := 264) (pc' := 49) rfl rfl ho_K rfl rfl ?_
          refine wq_ri rfl rfl ?_
          replace H := dz_sm H
          exact H
        · replace H := dz_if c6 H
          refine wp_s (i := .aload_n 0) (n := 1) (pc' := 33) (st' := [.ref 0]) rfl rfl ?_
          refine wq_gr (idx := 52) (a := 65) (pc' := 36) rfl rfl ho_O rfl rfl ?_
          refine wq_gi (idx := 261) (pc' := 39) rfl rfl ho_K rfl rfl ?_
          refine wp_s (i := .goto 10) (n := 3) (pc' := 49) (st' := [dz_I (q5 65 0 0)]) rfl rfl ?_
          refine wq_ri rfl rfl ?_
          replace H := dz_sm H
          exact H
      · replace H := dz_if c4 H
        refine wp_s (i := .bipush (-2)) (n := 2) (pc' := 23) (st' := [dz_I (-2)]) rfl rfl ?_
        refine wq_ri rfl rfl ?_
        replace H := dz_sm H
        exact H
    · replace H := dz_if c2 H
      refine wp_s (i := .iconst (-1)) (n := 1) (pc' := 10) (st' := [dz_I (-1)]) rfl rfl ?_
      refine wq_ri rfl rfl ?_
      replace H := dz_sm H
      exact H
-- 89
def jf_O_quiet (a1 : Int) (a2 : Int) (Z : dz_Z) : Option (Int × dz_Z) := Option.bind (jf_O_isShower a1 Z) fun q1 => if q1 = false then (some ((-1), Z)) else (if dz_c a2 < 0 then (some ((-1), Z)) else (if dz_c a2 ≤ 2 then (Option.bind (jf_O_chooseForShower a1 1 Z) fun q5 => if dz_c a2 ≠ 2 then (if dz_c (q5 65 3 0) ≠ 0 then (if dz_c a2 ≠ 0 then (some (q5 65 1 0, q5)) else (some (q5 65 0 0, q5))) else (some ((-4), q5))) else (some (q5 65 3 0, q5))) else (some ((-1), Z))))
set_option maxRecDepth 20000 in
theorem jw_O_quiet {X : Option (List Int32)} {D : Nat} {Q : Option Value → mm_H → Prop} (a1 : Int) (a2 : Int) (Z : dz_Z) (H : dz_p (jf_O_quiet a1 a2 Z) (fun q => Q (some (dz_I q.1)) (hz_0 q.2))) : mm_Wp X (D + 6) mm_r89 0 [some (.ref 0), some (dz_I a1), some (dz_I a2)] [] (hz_0 Z) Q := by
  unfold jf_O_quiet at H
  refine wp_s (i := .aload_n 0) (n := 1) (pc' := 1) (st' := [.ref 0]) rfl rfl ?_
  refine wp_s (i := .iload_n 1) (n := 1) (pc' := 2) (st' := [dz_I a1, .ref 0]) rfl rfl ?_
  refine wq_cv (Dq := (D + 5)) (r' := mm_r105) (as0 := [dz_I a1]) (rest := []) (ls' := [some (.ref 0), some (dz_I a1)]) (pc' := 5) rfl rfl rfl rfl ho_O rfl rfl rfl ?_
  refine jw_O_isShower (X := X) (D := D + 5) a1 Z (dz_pm (dz_bi H) (fun q1 H => ?_))
  show mm_Wp X (D + 6) mm_r89 5 [some (.ref 0), some (dz_I a1), some (dz_I a2)] [dz_B q1] (hz_0 Z) Q
  refine wq_if (p := q1 = false) (tt := 17) (pc' := 8) rfl rfl (cb_eq) rfl (fun c2 => ?_) (fun c2 => ?_)
  · replace H := dz_it c2 H
    refine wp_s (i := .iconst (-1)) (n := 1) (pc' := 18) (st' := [dz_I (-1)]) rfl rfl ?_
    refine wq_ri rfl rfl ?_
    replace H := dz_sm H
    exact H
  · replace H := dz_if c2 H
    refine wp_s (i := .iload_n 2) (n := 1) (pc' := 9) (st' := [dz_I a2]) rfl rfl ?_
    refine wq_if (p := dz_c a2 < 0) (tt := 17) (pc' := 12) rfl rfl (cz_lt rfl) rfl (fun c3 => ?_) (fun c3 => ?_)
    · replace H := dz_it c3 H
      refine wp_s (i := .iconst (-1)) (n := 1) (pc' := 18) (st' := [dz_I (-1)]) rfl rfl ?_
      refine wq_ri rfl rfl ?_
      replace H := dz_sm H
      exact H
    · replace H := dz_if c3 H
      refine wp_s (i := .iload_n 2) (n := 1) (pc' := 13) (st' := [dz_I a2]) rfl rfl ?_
      refine wp_s (i := .iconst 2) (n := 1) (pc' := 14) (st' := [dz_I 2, dz_I a2]) rfl rfl ?_
      refine wq_ic (p := dz_c a2 ≤ 2) (tt := 19) (pc' := 17) rfl rfl (cq_le rfl dk_2) rfl (fun c4 => ?_) (fun c4 => ?_)
      · replace H := dz_it c4 H
        refine wp_s (i := .aload_n 0) (n := 1) (pc' := 20) (st' := [.ref 0]) rfl rfl ?_
        refine wp_s (i := .iload_n 1) (n := 1) (pc' := 21) (st' := [dz_I a1, .ref 0]) rfl rfl ?_
        refine wp_s (i := .iconst 1) (n := 1) (pc' := 22) (st' := [dz_I 1, dz_I a1, .ref 0]) rfl rfl ?_
        refine wq_cv (Dq := (D + 5)) (r' := mm_r116) (as0 := [dz_I a1, dz_I 1]) (rest := []) (ls' := [some (.ref 0), some (dz_I a1), some (dz_I 1), none, none, none]) (pc' := 25) rfl rfl rfl rfl ho_O rfl rfl rfl ?_
        refine jw_O_chooseForShower (X := X) (D := D + 0) a1 1 Z (dz_pm (dz_bi H) (fun q5 H => ?_))
        show mm_Wp X (D + 6) mm_r89 25 [some (.ref 0), some (dz_I a1), some (dz_I a2)] [] (hz_0 q5) Q
        refine wp_s (i := .iload_n 2) (n := 1) (pc' := 26) (st' := [dz_I a2]) rfl rfl ?_
        refine wp_s (i := .iconst 2) (n := 1) (pc' := 27) (st' := [dz_I 2, dz_I a2]) rfl rfl ?_
        refine wq_ic (p := dz_c a2 ≠ 2) (tt := 38) (pc' := 30) rfl rfl (cq_ne rfl dk_2) rfl (fun c6 => ?_) (fun c6 => ?_)
        · replace H := dz_it c6 H
          refine wp_s (i := .aload_n 0) (n := 1) (pc' := 39) (st' := [.ref 0]) rfl rfl ?_
          refine wq_gr (idx := 52) (a := 65) (pc' := 42) rfl rfl ho_O rfl rfl ?_
          refine wq_gi (idx := 279) (pc' := 45) rfl rfl ho_K rfl rfl ?_
          refine wq_if (p := dz_c (q5 65 3 0) ≠ 0) (tt := 51) (pc' := 48) rfl rfl (cz_ne rfl) rfl (fun c7 => ?_) (fun c7 => ?_)
          · replace H := dz_it c7 H
            refine wp_s (i := .iload_n 2) (n := 1) (pc' := 52) (st' := [dz_I a2]) rfl rfl ?_
            refine wq_if (p := dz_c a2 ≠ 0) (tt := 65) (pc' := 55) rfl rfl (cz_ne rfl) rfl (fun c8 => ?_) (fun c8 => ?_)
            · replace H := dz_it c8 H
              refine wp_s (i := .aload_n 0) (n := 1) (pc' := 66) (st' := [.ref 0]) rfl rfl ?_
              refine wq_gr (idx := 52) (a := 65) (pc' := 69) rfl rfl ho_O rfl rfl ?_
              refine wq_gi (idx := 264) (pc' := 72) rfl rfl ho_K rfl rfl ?_
              refine wq_ri rfl rfl ?_
              replace H := dz_sm H
              exact H
            · replace H := dz_if c8 H
              refine wp_s (i := .aload_n 0) (n := 1) (pc' := 56) (st' := [.ref 0]) rfl rfl ?_
              refine wq_gr (idx := 52) (a := 65) (pc' := 59) rfl rfl ho_O rfl rfl ?_
              refine wq_gi (idx := 261) (pc' := 62) rfl rfl ho_K rfl rfl ?_
              refine wp_s (i := .goto 10) (n := 3) (pc' := 72) (st' := [dz_I (q5 65 0 0)]) rfl rfl ?_
              refine wq_ri rfl rfl ?_
              replace H := dz_sm H
              exact H
          · replace H := dz_if c7 H
            refine wp_s (i := .bipush (-4)) (n := 2) (pc' := 50) (st' := [dz_I (-4)]) rfl rfl ?_
            refine wq_ri rfl rfl ?_
            replace H := dz_sm H
            exact H
        · replace H := dz_if c6 H
          refine wp_s (i := .aload_n 0) (n := 1) (pc' := 31) (st' := [.ref 0]) rfl rfl ?_
          refine wq_gr (idx := 52) (a := 65) (pc' := 34) rfl rfl ho_O rfl rfl ?_
          refine wq_gi (idx := 279) (pc' := 37) rfl rfl ho_K rfl rfl ?_
          refine wq_ri rfl rfl ?_
          replace H := dz_sm H
          exact H
      · replace H := dz_if c4 H
        refine wp_s (i := .iconst (-1)) (n := 1) (pc' := 18) (st' := [dz_I (-1)]) rfl rfl ?_
        refine wq_ri rfl rfl ?_
        replace H := dz_sm H
        exact H
-- 90
def jf_O_woken (a1 : Int) (Z : dz_Z) : Option (Int × dz_Z) := Option.bind (jf_O_isShower a1 Z) fun q1 => if q1 = true then (if hz_isP (Z 0 2 0).toNat then if hz_isS (Z 0 3 0).toNat then Option.bind (jf_C_perform ((Z 0 2 0).toNat) ((Z 0 3 0).toNat) a1 Z) fun q5 => if hz_isP (q5 0 2 0).toNat then Option.bind (jf_C_wokenSleepers ((q5 0 2 0).toNat) q5) fun q7 => some (q7, q5) else none else none else none) else (some ((-1), Z))
set_option maxRecDepth 20000 in
theorem jw_O_woken {X : Option (List Int32)} {D : Nat} {Q : Option Value → mm_H → Prop} (a1 : Int) (Z : dz_Z) (H : dz_p (jf_O_woken a1 Z) (fun q => Q (some (dz_I q.1)) (hz_0 q.2))) : mm_Wp X (D + 5) mm_r90 0 [some (.ref 0), some (dz_I a1)] [] (hz_0 Z) Q := by
  unfold jf_O_woken at H
  refine wp_s (i := .aload_n 0) (n := 1) (pc' := 1) (st' := [.ref 0]) rfl rfl ?_
  refine wp_s (i := .iload_n 1) (n := 1) (pc' := 2) (st' := [dz_I a1, .ref 0]) rfl rfl ?_
  refine wq_cv (Dq := (D + 4)) (r' := mm_r105) (as0 := [dz_I a1]) (rest := []) (ls' := [some (.ref 0), some (dz_I a1)]) (pc' := 5) rfl rfl rfl rfl ho_O rfl rfl rfl ?_
  refine jw_O_isShower (X := X) (D := D + 4) a1 Z (dz_pm (dz_bi H) (fun q1 H => ?_))
  show mm_Wp X (D + 5) mm_r90 5 [some (.ref 0), some (dz_I a1)] [dz_B q1] (hz_0 Z) Q
  refine wq_if (p := q1 = true) (tt := 10) (pc' := 8) rfl rfl (cb_ne) rfl (fun c2 => ?_) (fun c2 => ?_)
  · replace H := dz_it c2 H
    refine wp_s (i := .aload_n 0) (n := 1) (pc' := 11) (st' := [.ref 0]) rfl rfl ?_
    refine wq_gr (idx := 45) (a := 54) (pc' := 14) rfl rfl ho_O rfl rfl ?_
    refine wp_s (i := .aload_n 0) (n := 1) (pc' := 15) (st' := [.ref 0, .ref 54]) rfl rfl ?_
    obtain ⟨k3, H⟩ := dz_ck H
    refine wq_gd (idx := 24) (pc' := 18) rfl rfl ho_O rfl rfl ?_
    refine wp_s (i := .aload_n 0) (n := 1) (pc' := 19) (st' := [.ref 0, .ref ((Z 0 2 0).toNat), .ref 54]) rfl rfl ?_
    obtain ⟨k4, H⟩ := dz_ck H
    refine wq_gd (idx := 31) (pc' := 22) rfl rfl ho_O rfl rfl ?_
    refine wp_s (i := .iload_n 1) (n := 1) (pc' := 23) (st' := [dz_I a1, .ref ((Z 0 3 0).toNat), .ref ((Z 0 2 0).toNat), .ref 54]) rfl rfl ?_
    refine wq_cv (Dq := (D + 4)) (r' := mm_r5) (as0 := [.ref ((Z 0 2 0).toNat), .ref ((Z 0 3 0).toNat), dz_I a1]) (rest := []) (ls' := [some (.ref 54), some (.ref ((Z 0 2 0).toNat)), some (.ref ((Z 0 3 0).toNat)), some (dz_I a1), none, none]) (pc' := 26) rfl rfl rfl rfl ho_C rfl rfl rfl ?_
    refine jw_C_perform (X := X) (D := D + 0) ((Z 0 2 0).toNat) k3 ((Z 0 3 0).toNat) k4 a1 Z (dz_pm (dz_bi H) (fun q5 H => ?_))
    show mm_Wp X (D + 5) mm_r90 26 [some (.ref 0), some (dz_I a1)] [] (hz_0 q5) Q
    refine wp_s (i := .aload_n 0) (n := 1) (pc' := 27) (st' := [.ref 0]) rfl rfl ?_
    refine wq_gr (idx := 45) (a := 54) (pc' := 30) rfl rfl ho_O rfl rfl ?_
    refine wp_s (i := .aload_n 0) (n := 1) (pc' := 31) (st' := [.ref 0, .ref 54]) rfl rfl ?_
    obtain ⟨k6, H⟩ := dz_ck H
    refine wq_gd (idx := 24) (pc' := 34) rfl rfl ho_O rfl rfl ?_
    refine wq_cv (Dq := (D + 4)) (r' := mm_r8) (as0 := [.ref ((q5 0 2 0).toNat)]) (rest := []) (ls' := [some (.ref 54), some (.ref ((q5 0 2 0).toNat)), none, none, none]) (pc' := 37) rfl rfl rfl rfl ho_C rfl rfl rfl ?_
    refine jw_C_wokenSleepers (X := X) (D := D + 4) ((q5 0 2 0).toNat) k6 q5 (dz_pm (dz_bi H) (fun q7 H => ?_))
    show mm_Wp X (D + 5) mm_r90 37 [some (.ref 0), some (dz_I a1)] [dz_I q7] (hz_0 q5) Q
    refine wq_ri rfl rfl ?_
    replace H := dz_sm H
    exact H
  · replace H := dz_if c2 H
    refine wp_s (i := .iconst (-1)) (n := 1) (pc' := 9) (st' := [dz_I (-1)]) rfl rfl ?_
    refine wq_ri rfl rfl ?_
    replace H := dz_sm H
    exact H
-- 118
def jf_O_soundsAsTheTune (a1 : Int) (Z : dz_Z) : Option (Bool × dz_Z) := Option.bind (jf_F_dryUp 55 Z) fun q1 => if hz_isS (q1 0 3 0).toNat then dz_lp (fun (s3 : Int × dz_Z) => if dz_c (q1 ((q1 0 3 0).toNat) 6 0) ≤ dz_c s3.1 then (some (Sum.inr (true, s3.2))) else (dz_a (dz_an (dz_ur a1 (2 * (((q1 ((q1 0 3 0).toNat) 6 0) - 1) - s3.1))) 3) fun x6 => if hz_isP (s3.2 0 2 0).toNat then if hz_isS (s3.2 0 3 0).toNat then Option.bind (jf_F_passSecond 55 ((s3.2 0 2 0).toNat) ((s3.2 0 3 0).toNat) x6 s3.2) fun q9 => if hz_isS (q9.2 0 3 0).toNat then if 0 ≤ dz_c s3.1 ∧ dz_c s3.1 < 12 then if dz_c q9.1 = dz_c (q9.2 ((q9.2 0 3 0).toNat) 5 (dz_c s3.1)) then (some (Sum.inl (s3.1 + 1, q9.2))) else (some (Sum.inr (false, q9.2))) else none else none else none else none)) 5000 (0, q1) else none
set_option maxRecDepth 20000 in
theorem jw_O_soundsAsTheTune {X : Option (List Int32)} {D : Nat} {Q : Option Value → mm_H → Prop} (a1 : Int) (Z : dz_Z) (H : dz_p (jf_O_soundsAsTheTune a1 Z) (fun q => Q (some (dz_B q.1)) (hz_0 q.2))) : mm_Wp X (D + 4) mm_r118 0 [some (.ref 0), some (dz_I a1), none, none, none, none] [] (hz_0 Z) Q := by
  unfold jf_O_soundsAsTheTune at H
  refine wp_s (i := .aload_n 0) (n := 1) (pc' := 1) (st' := [.ref 0]) rfl rfl ?_
  refine wq_gr (idx := 45) (a := 54) (pc' := 4) rfl rfl ho_O rfl rfl ?_
  refine wq_gr (idx := 235) (a := 55) (pc' := 7) rfl rfl ho_C rfl rfl ?_
  refine wp_s (i := .astore_n 2) (n := 1) (pc' := 8) (ls' := [some (.ref 0), some (dz_I a1), some (.ref 55), none, none, none]) (st' := []) rfl rfl ?_
  refine wp_s (i := .aload_n 2) (n := 1) (pc' := 9) (st' := [.ref 55]) rfl rfl ?_
  refine wq_cv (Dq := (D + 3)) (r' := mm_r10) (as0 := []) (rest := []) (ls' := [some (.ref 55)]) (pc' := 12) rfl rfl rfl rfl (ho_F (Or.inr (Or.inl rfl))) rfl rfl rfl ?_
  refine jw_F_dryUp (X := X) (D := D + 2) 55 (Or.inr (Or.inl rfl)) Z (dz_pm (dz_bi H) (fun q1 H => ?_))
  show mm_Wp X (D + 4) mm_r118 12 [some (.ref 0), some (dz_I a1), some (.ref 55), none, none, none] [] (hz_0 q1) Q
  refine wp_s (i := .aload_n 0) (n := 1) (pc' := 13) (st' := [.ref 0]) rfl rfl ?_
  obtain ⟨k2, H⟩ := dz_ck H
  refine wq_gd (idx := 31) (pc' := 16) rfl rfl ho_O rfl rfl ?_
  refine wq_gi (idx := 120) (pc' := 19) rfl rfl (ho_S k2) rfl rfl ?_
  refine wq_st (k := 3) (i := .istore_n 3) (n := 1) (ls' := [some (.ref 0), some (dz_I a1), some (.ref 55), some (dz_I (q1 ((q1 0 3 0).toNat) 6 0)), none, none]) (pc' := 20) rfl rfl rfl rfl rfl ?_
  refine wp_s (i := .iconst 0) (n := 1) (pc' := 21) (st' := [dz_I 0]) rfl rfl ?_
  refine wq_st (k := 4) (i := .istore 4) (n := 2) (ls' := [some (.ref 0), some (dz_I a1), some (.ref 55), some (dz_I (q1 ((q1 0 3 0).toNat) 6 0)), some (dz_I 0), none]) (pc' := 23) rfl rfl rfl rfl rfl ?_
  refine dz_lpi (P := fun (s3 : Int × dz_Z) => ∀ (u4 : Option Int32), mm_Wp X (D + 4) mm_r118 23 [some (.ref 0), some (dz_I a1), some (.ref 55), some (dz_I (q1 ((q1 0 3 0).toNat) 6 0)), some (dz_I s3.1), Option.map Value.int u4] [] (hz_0 s3.2) Q) (fun s3 H => ?_) 5000 (0, q1) H none
  intro u4
  refine wp_s (i := .iload 4) (n := 2) (pc' := 25) (st' := [dz_I s3.1]) rfl rfl ?_
  refine wp_s (i := .iload_n 3) (n := 1) (pc' := 26) (st' := [dz_I (q1 ((q1 0 3 0).toNat) 6 0), dz_I s3.1]) rfl rfl ?_
  refine wq_ic (p := dz_c (q1 ((q1 0 3 0).toNat) 6 0) ≤ dz_c s3.1) (tt := 78) (pc' := 29) rfl rfl (cq_ge rfl rfl) rfl (fun c5 => ?_) (fun c5 => ?_)
  · replace H := dz_it c5 H
    refine wp_s (i := .iconst 1) (n := 1) (pc' := 79) (st' := [dz_I 1]) rfl rfl ?_
    refine wq_rt rfl rfl ?_
    replace H := dz_out H
    replace H := dz_sm H
    exact H
  · replace H := dz_if c5 H
    refine wp_s (i := .iload_n 1) (n := 1) (pc' := 30) (st' := [dz_I a1]) rfl rfl ?_
    refine wp_s (i := .iconst 2) (n := 1) (pc' := 31) (st' := [dz_I 2, dz_I a1]) rfl rfl ?_
    refine wp_s (i := .iload_n 3) (n := 1) (pc' := 32) (st' := [dz_I (q1 ((q1 0 3 0).toNat) 6 0), dz_I 2, dz_I a1]) rfl rfl ?_
    refine wp_s (i := .iconst 1) (n := 1) (pc' := 33) (st' := [dz_I 1, dz_I (q1 ((q1 0 3 0).toNat) 6 0), dz_I 2, dz_I a1]) rfl rfl ?_
    refine wq_2 (i := .isub) (z := (q1 ((q1 0 3 0).toNat) 6 0) - 1) (pc' := 34) rfl rfl (op_sub _ _) rfl ?_
    refine wp_s (i := .iload 4) (n := 2) (pc' := 36) (st' := [dz_I s3.1, dz_I ((q1 ((q1 0 3 0).toNat) 6 0) - 1), dz_I 2, dz_I a1]) rfl rfl ?_
    refine wq_2 (i := .isub) (z := ((q1 ((q1 0 3 0).toNat) 6 0) - 1) - s3.1) (pc' := 37) rfl rfl (op_sub _ _) rfl ?_
    refine wq_2 (i := .imul) (z := 2 * (((q1 ((q1 0 3 0).toNat) 6 0) - 1) - s3.1)) (pc' := 38) rfl rfl (op_mul _ _) rfl ?_
    refine wq_2 (i := .iushr) (z := dz_ur a1 (2 * (((q1 ((q1 0 3 0).toNat) 6 0) - 1) - s3.1))) (pc' := 39) rfl rfl (op_ushr _ _) rfl ?_
    refine wp_s (i := .iconst 3) (n := 1) (pc' := 40) (st' := [dz_I 3, dz_I (dz_ur a1 (2 * (((q1 ((q1 0 3 0).toNat) 6 0) - 1) - s3.1)))]) rfl rfl ?_
    refine wq_2 (i := .iand) (z := dz_an (dz_ur a1 (2 * (((q1 ((q1 0 3 0).toNat) 6 0) - 1) - s3.1))) 3) (pc' := 41) rfl rfl (op_and _ _) rfl ?_
    refine wq_sa (k := 5) (F := fun x6 => [some (.ref 0), some (dz_I a1), some (.ref 55), some (dz_I (q1 ((q1 0 3 0).toNat) 6 0)), some (dz_I s3.1), some (dz_I x6)]) (i := .istore 5) (n := 2) (pc' := 43) rfl rfl (fun _ => rfl) (fun _ => rfl) rfl (fun x6 ex6 => ?_)
    show mm_Wp _ _ _ 43 [some (.ref 0), some (dz_I a1), some (.ref 55), some (dz_I (q1 ((q1 0 3 0).toNat) 6 0)), some (dz_I s3.1), some (dz_I x6)] [] _ _
    replace H := dz_le H x6 ex6
    clear ex6
    refine wp_s (i := .aload_n 2) (n := 1) (pc' := 44) (st' := [.ref 55]) rfl rfl ?_
    refine wp_s (i := .aload_n 0) (n := 1) (pc' := 45) (st' := [.ref 0, .ref 55]) rfl rfl ?_
    obtain ⟨k7, H⟩ := dz_ck H
    refine wq_gd (idx := 24) (pc' := 48) rfl rfl ho_O rfl rfl ?_
    refine wp_s (i := .aload_n 0) (n := 1) (pc' := 49) (st' := [.ref 0, .ref ((s3.2 0 2 0).toNat), .ref 55]) rfl rfl ?_
    obtain ⟨k8, H⟩ := dz_ck H
    refine wq_gd (idx := 31) (pc' := 52) rfl rfl ho_O rfl rfl ?_
    refine wp_s (i := .iload 5) (n := 2) (pc' := 54) (st' := [dz_I x6, .ref ((s3.2 0 3 0).toNat), .ref ((s3.2 0 2 0).toNat), .ref 55]) rfl rfl ?_
    refine wq_cv (Dq := (D + 3)) (r' := mm_r12) (as0 := [.ref ((s3.2 0 2 0).toNat), .ref ((s3.2 0 3 0).toNat), dz_I x6]) (rest := []) (ls' := [some (.ref 55), some (.ref ((s3.2 0 2 0).toNat)), some (.ref ((s3.2 0 3 0).toNat)), some (dz_I x6), none]) (pc' := 57) rfl rfl rfl rfl (ho_F (Or.inr (Or.inl rfl))) rfl rfl rfl ?_
    refine jw_F_passSecond (X := X) (D := D + 0) 55 (Or.inr (Or.inl rfl)) ((s3.2 0 2 0).toNat) k7 ((s3.2 0 3 0).toNat) k8 x6 s3.2 (dz_pm (dz_bi H) (fun q9 H => ?_))
    show mm_Wp X (D + 4) mm_r118 57 [some (.ref 0), some (dz_I a1), some (.ref 55), some (dz_I (q1 ((q1 0 3 0).toNat) 6 0)), some (dz_I s3.1), some (dz_I x6)] [dz_I q9.1] (hz_0 q9.2) Q
    refine wp_s (i := .aload_n 0) (n := 1) (pc' := 58) (st' := [.ref 0, dz_I q9.1]) rfl rfl ?_
    obtain ⟨k10, H⟩ := dz_ck H
    refine wq_gd (idx := 31) (pc' := 61) rfl rfl ho_O rfl rfl ?_
    refine wq_gr (idx := 251) (a := (q9.2 0 3 0).toNat + 9) (pc' := 64) rfl rfl (ho_S k10) rfl rfl ?_
    refine wp_s (i := .iload 4) (n := 2) (pc' := 66) (st' := [dz_I s3.1, .ref ((q9.2 0 3 0).toNat + 9), dz_I q9.1]) rfl rfl ?_
    obtain ⟨k11, H⟩ := dz_ck H
    refine wq_ia (j' := dz_c s3.1) (pc' := 67) rfl (ha_S_5 k10) rfl k11.1 k11.2 rfl ?_
    refine wq_ic (p := dz_c q9.1 = dz_c (q9.2 ((q9.2 0 3 0).toNat) 5 (dz_c s3.1))) (tt := 72) (pc' := 70) rfl rfl (cq_eq rfl rfl) rfl (fun c12 => ?_) (fun c12 => ?_)
    · replace H := dz_it c12 H
      refine wq_inc (k := 4) (d := 1) (x := s3.1) (ls' := [some (.ref 0), some (dz_I a1), some (.ref 55), some (dz_I (q1 ((q1 0 3 0).toNat) 6 0)), some (dz_I (s3.1 + 1)), some (dz_I x6)]) (pc' := 75) rfl rfl rfl rfl ?_
      refine wp_s (i := .goto (-52)) (n := 3) (pc' := 23) (st' := []) rfl rfl ?_
      replace H := dz_back H
      exact H (some (Int32.ofInt x6))
    · replace H := dz_if c12 H
      refine wp_s (i := .iconst 0) (n := 1) (pc' := 71) (st' := [dz_I 0]) rfl rfl ?_
      refine wq_rf rfl rfl ?_
      replace H := dz_out H
      replace H := dz_sm H
      exact H
-- 91
def jf_O_heard (a1 : Int) (Z : dz_Z) : Option (Int × dz_Z) := if dz_c a1 < 0 then (some ((-1), Z)) else (if dz_c a1 ≤ 1 then (if hz_isS (Z 0 3 0).toNat then if dz_c (Z ((Z 0 3 0).toNat) 6 0) < 1 then (some ((-2), Z)) else (if dz_c (Z ((Z 0 3 0).toNat) 6 0) ≤ 5 then (dz_lp (fun (s6 : Int × Int × Int × dz_Z) => if dz_c (dz_sl 1 (2 * (Z ((Z 0 3 0).toNat) 6 0))) ≤ dz_c s6.2.2.1 then (if dz_c a1 ≠ 0 then (some (Sum.inr (s6.2.1, s6.2.2.2))) else (some (Sum.inr (s6.1, s6.2.2.2)))) else (Option.bind (jf_O_soundsAsTheTune s6.2.2.1 s6.2.2.2) fun q9 => if q9.1 = false then (some (Sum.inl (s6.1, s6.2.1, s6.2.2.1 + 1, q9.2))) else (if dz_c s6.2.1 ≠ (-4) then (some (Sum.inl (s6.1 + 1, s6.2.1, s6.2.2.1 + 1, q9.2))) else (some (Sum.inl (s6.1 + 1, s6.2.2.1, s6.2.2.1 + 1, q9.2)))))) 5000 (0, (-4), 0, Z)) else (some ((-2), Z))) else none) else (some ((-1), Z)))
set_option maxRecDepth 20000 in
theorem jw_O_heard {X : Option (List Int32)} {D : Nat} {Q : Option Value → mm_H → Prop} (a1 : Int) (Z : dz_Z) (H : dz_p (jf_O_heard a1 Z) (fun q => Q (some (dz_I q.1)) (hz_0 q.2))) : mm_Wp X (D + 5) mm_r91 0 [some (.ref 0), some (dz_I a1), none, none, none, none, none] [] (hz_0 Z) Q := by
  unfold jf_O_heard at H
  refine wp_s (i := .iload_n 1) (n := 1) (pc' := 1) (st' := [dz_I a1]) rfl rfl ?_
  refine wq_if (p := dz_c a1 < 0) (tt := 9) (pc' := 4) rfl rfl (cz_lt rfl) rfl (fun c1 => ?_) (fun c1 => ?_)
  · replace H := dz_it c1 H
    refine wp_s (i := .iconst (-1)) (n := 1) (pc' := 10) (st' := [dz_I (-1)]) rfl rfl ?_
    refine wq_ri rfl rfl ?_
    replace H := dz_sm H
    exact H
  · replace H := dz_if c1 H
    refine wp_s (i := .iload_n 1) (n := 1) (pc' := 5) (st' := [dz_I a1]) rfl rfl ?_
    refine wp_s (i := .iconst 1) (n := 1) (pc' := 6) (st' := [dz_I 1, dz_I a1]) rfl rfl ?_
    refine wq_ic (p := dz_c a1 ≤ 1) (tt := 11) (pc' := 9) rfl rfl (cq_le rfl dk_1) rfl (fun c2 => ?_) (fun c2 => ?_)
    · replace H := dz_it c2 H
      refine wp_s (i := .aload_n 0) (n := 1) (pc' := 12) (st' := [.ref 0]) rfl rfl ?_
      obtain ⟨k3, H⟩ := dz_ck H
      refine wq_gd (idx := 31) (pc' := 15) rfl rfl ho_O rfl rfl ?_
      refine wq_gi (idx := 120) (pc' := 18) rfl rfl (ho_S k3) rfl rfl ?_
      refine wq_st (k := 2) (i := .istore_n 2) (n := 1) (ls' := [some (.ref 0), some (dz_I a1), some (dz_I (Z ((Z 0 3 0).toNat) 6 0)), none, none, none, none]) (pc' := 19) rfl rfl rfl rfl rfl ?_
      refine wp_s (i := .iload_n 2) (n := 1) (pc' := 20) (st' := [dz_I (Z ((Z 0 3 0).toNat) 6 0)]) rfl rfl ?_
      refine wp_s (i := .iconst 1) (n := 1) (pc' := 21) (st' := [dz_I 1, dz_I (Z ((Z 0 3 0).toNat) 6 0)]) rfl rfl ?_
      refine wq_ic (p := dz_c (Z ((Z 0 3 0).toNat) 6 0) < 1) (tt := 29) (pc' := 24) rfl rfl (cq_lt rfl dk_1) rfl (fun c4 => ?_) (fun c4 => ?_)
      · replace H := dz_it c4 H
        refine wp_s (i := .bipush (-2)) (n := 2) (pc' := 31) (st' := [dz_I (-2)]) rfl rfl ?_
        refine wq_ri rfl rfl ?_
        replace H := dz_sm H
        exact H
      · replace H := dz_if c4 H
        refine wp_s (i := .iload_n 2) (n := 1) (pc' := 25) (st' := [dz_I (Z ((Z 0 3 0).toNat) 6 0)]) rfl rfl ?_
        refine wp_s (i := .iconst 5) (n := 1) (pc' := 26) (st' := [dz_I 5, dz_I (Z ((Z 0 3 0).toNat) 6 0)]) rfl rfl ?_
        refine wq_ic (p := dz_c (Z ((Z 0 3 0).toNat) 6 0) ≤ 5) (tt := 32) (pc' := 29) rfl rfl (cq_le rfl dk_5) rfl (fun c5 => ?_) (fun c5 => ?_)
        · replace H := dz_it c5 H
          refine wp_s (i := .iconst 0) (n := 1) (pc' := 33) (st' := [dz_I 0]) rfl rfl ?_
          refine wq_st (k := 3) (i := .istore_n 3) (n := 1) (ls' := [some (.ref 0), some (dz_I a1), some (dz_I (Z ((Z 0 3 0).toNat) 6 0)), some (dz_I 0), none, none, none]) (pc' := 34) rfl rfl rfl rfl rfl ?_
          refine wp_s (i := .bipush (-4)) (n := 2) (pc' := 36) (st' := [dz_I (-4)]) rfl rfl ?_
          refine wq_st (k := 4) (i := .istore 4) (n := 2) (ls' := [some (.ref 0), some (dz_I a1), some (dz_I (Z ((Z 0 3 0).toNat) 6 0)), some (dz_I 0), some (dz_I (-4)), none, none]) (pc' := 38) rfl rfl rfl rfl rfl ?_
          refine wp_s (i := .iconst 1) (n := 1) (pc' := 39) (st' := [dz_I 1]) rfl rfl ?_
          refine wp_s (i := .iconst 2) (n := 1) (pc' := 40) (st' := [dz_I 2, dz_I 1]) rfl rfl ?_
          refine wp_s (i := .iload_n 2) (n := 1) (pc' := 41) (st' := [dz_I (Z ((Z 0 3 0).toNat) 6 0), dz_I 2, dz_I 1]) rfl rfl ?_
          refine wq_2 (i := .imul) (z := 2 * (Z ((Z 0 3 0).toNat) 6 0)) (pc' := 42) rfl rfl (op_mul _ _) rfl ?_
          refine wq_2 (i := .ishl) (z := dz_sl 1 (2 * (Z ((Z 0 3 0).toNat) 6 0))) (pc' := 43) rfl rfl (op_shl _ _) rfl ?_
          refine wq_st (k := 5) (i := .istore 5) (n := 2) (ls' := [some (.ref 0), some (dz_I a1), some (dz_I (Z ((Z 0 3 0).toNat) 6 0)), some (dz_I 0), some (dz_I (-4)), some (dz_I (dz_sl 1 (2 * (Z ((Z 0 3 0).toNat) 6 0)))), none]) (pc' := 45) rfl rfl rfl rfl rfl ?_
          refine wp_s (i := .iconst 0) (n := 1) (pc' := 46) (st' := [dz_I 0]) rfl rfl ?_
          refine wq_st (k := 6) (i := .istore 6) (n := 2) (ls' := [some (.ref 0), some (dz_I a1), some (dz_I (Z ((Z 0 3 0).toNat) 6 0)), some (dz_I 0), some (dz_I (-4)), some (dz_I (dz_sl 1 (2 * (Z ((Z 0 3 0).toNat) 6 0)))), some (dz_I 0)]) (pc' := 48) rfl rfl rfl rfl rfl ?_
          refine dz_lpi (P := fun (s6 : Int × Int × Int × dz_Z) => mm_Wp X (D + 5) mm_r91 48 [some (.ref 0), some (dz_I a1), some (dz_I (Z ((Z 0 3 0).toNat) 6 0)), some (dz_I s6.1), some (dz_I s6.2.1), some (dz_I (dz_sl 1 (2 * (Z ((Z 0 3 0).toNat) 6 0)))), some (dz_I s6.2.2.1)] [] (hz_0 s6.2.2.2) Q) (fun s6 H => ?_) 5000 (0, (-4), 0, Z) H
          refine wp_s (i := .iload 6) (n := 2) (pc' := 50) (st' := [dz_I s6.2.2.1]) rfl rfl ?_
          refine wp_s (i := .iload 5) (n := 2) (pc' := 52) (st' := [dz_I (dz_sl 1 (2 * (Z ((Z 0 3 0).toNat) 6 0))), dz_I s6.2.2.1]) rfl rfl ?_
          refine wq_ic (p := dz_c (dz_sl 1 (2 * (Z ((Z 0 3 0).toNat) 6 0))) ≤ dz_c s6.2.2.1) (tt := 89) (pc' := 55) rfl rfl (cq_ge rfl rfl) rfl (fun c7 => ?_) (fun c7 => ?_)
          · replace H := dz_it c7 H
            refine wp_s (i := .iload_n 1) (n := 1) (pc' := 90) (st' := [dz_I a1]) rfl rfl ?_
            refine wq_if (p := dz_c a1 ≠ 0) (tt := 97) (pc' := 93) rfl rfl (cz_ne rfl) rfl (fun c8 => ?_) (fun c8 => ?_)
            · replace H := dz_it c8 H
              refine wp_s (i := .iload 4) (n := 2) (pc' := 99) (st' := [dz_I s6.2.1]) rfl rfl ?_
              refine wq_ri rfl rfl ?_
              replace H := dz_out H
              replace H := dz_sm H
              exact H
            · replace H := dz_if c8 H
              refine wp_s (i := .iload_n 3) (n := 1) (pc' := 94) (st' := [dz_I s6.1]) rfl rfl ?_
              refine wp_s (i := .goto 5) (n := 3) (pc' := 99) (st' := [dz_I s6.1]) rfl rfl ?_
              refine wq_ri rfl rfl ?_
              replace H := dz_out H
              replace H := dz_sm H
              exact H
          · replace H := dz_if c7 H
            refine wp_s (i := .aload_n 0) (n := 1) (pc' := 56) (st' := [.ref 0]) rfl rfl ?_
            refine wp_s (i := .iload 6) (n := 2) (pc' := 58) (st' := [dz_I s6.2.2.1, .ref 0]) rfl rfl ?_
            refine wq_cv (Dq := (D + 4)) (r' := mm_r118) (as0 := [dz_I s6.2.2.1]) (rest := []) (ls' := [some (.ref 0), some (dz_I s6.2.2.1), none, none, none, none]) (pc' := 61) rfl rfl rfl rfl ho_O rfl rfl rfl ?_
            refine jw_O_soundsAsTheTune (X := X) (D := D + 0) s6.2.2.1 s6.2.2.2 (dz_pm (dz_bi H) (fun q9 H => ?_))
            show mm_Wp X (D + 5) mm_r91 61 [some (.ref 0), some (dz_I a1), some (dz_I (Z ((Z 0 3 0).toNat) 6 0)), some (dz_I s6.1), some (dz_I s6.2.1), some (dz_I (dz_sl 1 (2 * (Z ((Z 0 3 0).toNat) 6 0)))), some (dz_I s6.2.2.1)] [dz_B q9.1] (hz_0 q9.2) Q
            refine wq_if (p := q9.1 = false) (tt := 83) (pc' := 64) rfl rfl (cb_eq) rfl (fun c10 => ?_) (fun c10 => ?_)
            · replace H := dz_it c10 H
              refine wq_inc (k := 6) (d := 1) (x := s6.2.2.1) (ls' := [some (.ref 0), some (dz_I a1), some (dz_I (Z ((Z 0 3 0).toNat) 6 0)), some (dz_I s6.1), some (dz_I s6.2.1), some (dz_I (dz_sl 1 (2 * (Z ((Z 0 3 0).toNat) 6 0)))), some (dz_I (s6.2.2.1 + 1))]) (pc' := 86) rfl rfl rfl rfl ?_
              refine wp_s (i := .goto (-38)) (n := 3) (pc' := 48) (st' := []) rfl rfl ?_
              replace H := dz_back H
              exact H
            · replace H := dz_if c10 H
              refine wq_inc (k := 3) (d := 1) (x := s6.1) (ls' := [some (.ref 0), some (dz_I a1), some (dz_I (Z ((Z 0 3 0).toNat) 6 0)), some (dz_I (s6.1 + 1)), some (dz_I s6.2.1), some (dz_I (dz_sl 1 (2 * (Z ((Z 0 3 0).toNat) 6 0)))), some (dz_I s6.2.2.1)]) (pc' := 67) rfl rfl rfl rfl ?_
              refine wp_s (i := .iload 4) (n := 2) (pc' := 69) (st' := [dz_I s6.2.1]) rfl rfl ?_
              refine wp_s (i := .bipush (-4)) (n := 2) (pc' := 71) (st' := [dz_I (-4), dz_I s6.2.1]) rfl rfl ?_
              refine wq_ic (p := dz_c s6.2.1 ≠ (-4)) (tt := 79) (pc' := 74) rfl rfl (cq_ne rfl dk_m4) rfl (fun c11 => ?_) (fun c11 => ?_)
              · replace H := dz_it c11 H
                refine wp_s (i := .iload 4) (n := 2) (pc' := 81) (st' := [dz_I s6.2.1]) rfl rfl ?_
                refine wq_st (k := 4) (i := .istore 4) (n := 2) (ls' := [some (.ref 0), some (dz_I a1), some (dz_I (Z ((Z 0 3 0).toNat) 6 0)), some (dz_I (s6.1 + 1)), some (dz_I s6.2.1), some (dz_I (dz_sl 1 (2 * (Z ((Z 0 3 0).toNat) 6 0)))), some (dz_I s6.2.2.1)]) (pc' := 83) rfl rfl rfl rfl rfl ?_
                refine wq_inc (k := 6) (d := 1) (x := s6.2.2.1) (ls' := [some (.ref 0), some (dz_I a1), some (dz_I (Z ((Z 0 3 0).toNat) 6 0)), some (dz_I (s6.1 + 1)), some (dz_I s6.2.1), some (dz_I (dz_sl 1 (2 * (Z ((Z 0 3 0).toNat) 6 0)))), some (dz_I (s6.2.2.1 + 1))]) (pc' := 86) rfl rfl rfl rfl ?_
                refine wp_s (i := .goto (-38)) (n := 3) (pc' := 48) (st' := []) rfl rfl ?_
                replace H := dz_back H
                exact H
              · replace H := dz_if c11 H
                refine wp_s (i := .iload 6) (n := 2) (pc' := 76) (st' := [dz_I s6.2.2.1]) rfl rfl ?_
                refine wp_s (i := .goto 5) (n := 3) (pc' := 81) (st' := [dz_I s6.2.2.1]) rfl rfl ?_
                refine wq_st (k := 4) (i := .istore 4) (n := 2) (ls' := [some (.ref 0), some (dz_I a1), some (dz_I (Z ((Z 0 3 0).toNat) 6 0)), some (dz_I (s6.1 + 1)), some (dz_I s6.2.2.1), some (dz_I (dz_sl 1 (2 * (Z ((Z 0 3 0).toNat) 6 0)))), some (dz_I s6.2.2.1)]) (pc' := 83) rfl rfl rfl rfl rfl ?_
                refine wq_inc (k := 6) (d := 1) (x := s6.2.2.1) (ls' := [some (.ref 0), some (dz_I a1), some (dz_I (Z ((Z 0 3 0).toNat) 6 0)), some (dz_I (s6.1 + 1)), some (dz_I s6.2.2.1), some (dz_I (dz_sl 1 (2 * (Z ((Z 0 3 0).toNat) 6 0)))), some (dz_I (s6.2.2.1 + 1))]) (pc' := 86) rfl rfl rfl rfl ?_
                refine wp_s (i := .goto (-38)) (n := 3) (pc' := 48) (st' := []) rfl rfl ?_
                replace H := dz_back H
                exact H
        · replace H := dz_if c5 H
          refine wp_s (i := .bipush (-2)) (n := 2) (pc' := 31) (st' := [dz_I (-2)]) rfl rfl ?_
          refine wq_ri rfl rfl ?_
          replace H := dz_sm H
          exact H
    · replace H := dz_if c2 H
      refine wp_s (i := .iconst (-1)) (n := 1) (pc' := 10) (st' := [dz_I (-1)]) rfl rfl ?_
      refine wq_ri rfl rfl ?_
      replace H := dz_sm H
      exact H
-- 92
def jf_O_blocked (a1 : Int) (Z : dz_Z) : Option (Int × dz_Z) := Option.bind (jf_O_isShower a1 Z) fun q1 => if q1 = true then (Option.bind (jf_O_distance a1 Z) fun q3 => Option.bind (α := Int) (if dz_c q3.1 ≠ 0 then (some 0) else (some 32)) (fun (q5 : Int) => dz_lp (fun (s6 : Int × Int × dz_Z) => if hz_isP (s6.2.2 0 2 0).toNat then if dz_c (s6.2.2 ((s6.2.2 0 2 0).toNat) 3 0) ≤ dz_c s6.2.1 then (some (Sum.inr (s6.1, s6.2.2))) else (if hz_isS (s6.2.2 0 3 0).toNat then if 0 ≤ dz_c s6.2.1 ∧ dz_c s6.2.1 < 5 then if dz_c (s6.2.2 ((s6.2.2 0 3 0).toNat) 1 (dz_c s6.2.1)) ≠ 0 then (some (Sum.inl (s6.1, s6.2.1 + 1, s6.2.2))) else (dz_a (dz_u s6.2.2 ((s6.2.2 0 3 0).toNat) 1 (dz_c s6.2.1) 1) fun Z12 => Option.bind (jf_O_distance a1 Z12) fun q13 => Option.bind (α := Int) (if dz_c q13.1 ≠ 0 then (some 0) else (some (dz_sl 1 s6.2.1))) (fun (q15 : Int) => if hz_isS (q13.2 0 3 0).toNat then dz_a (dz_u q13.2 ((q13.2 0 3 0).toNat) 1 (dz_c s6.2.1) 0) fun Z17 => some (Sum.inl (dz_or s6.1 q15, s6.2.1 + 1, Z17)) else none)) else none else none) else none) 5000 (q5, 0, q3.2))) else (some ((-1), Z))
set_option maxRecDepth 20000 in
theorem jw_O_blocked {X : Option (List Int32)} {D : Nat} {Q : Option Value → mm_H → Prop} (a1 : Int) (Z : dz_Z) (H : dz_p (jf_O_blocked a1 Z) (fun q => Q (some (dz_I q.1)) (hz_0 q.2))) : mm_Wp X (D + 6) mm_r92 0 [some (.ref 0), some (dz_I a1), none, none] [] (hz_0 Z) Q := by
  unfold jf_O_blocked at H
  refine wp_s (i := .aload_n 0) (n := 1) (pc' := 1) (st' := [.ref 0]) rfl rfl ?_
  refine wp_s (i := .iload_n 1) (n := 1) (pc' := 2) (st' := [dz_I a1, .ref 0]) rfl rfl ?_
  refine wq_cv (Dq := (D + 5)) (r' := mm_r105) (as0 := [dz_I a1]) (rest := []) (ls' := [some (.ref 0), some (dz_I a1)]) (pc' := 5) rfl rfl rfl rfl ho_O rfl rfl rfl ?_
  refine jw_O_isShower (X := X) (D := D + 5) a1 Z (dz_pm (dz_bi H) (fun q1 H => ?_))
  show mm_Wp X (D + 6) mm_r92 5 [some (.ref 0), some (dz_I a1), none, none] [dz_B q1] (hz_0 Z) Q
  refine wq_if (p := q1 = true) (tt := 10) (pc' := 8) rfl rfl (cb_ne) rfl (fun c2 => ?_) (fun c2 => ?_)
  · replace H := dz_it c2 H
    refine wp_s (i := .aload_n 0) (n := 1) (pc' := 11) (st' := [.ref 0]) rfl rfl ?_
    refine wp_s (i := .iload_n 1) (n := 1) (pc' := 12) (st' := [dz_I a1, .ref 0]) rfl rfl ?_
    refine wq_cv (Dq := (D + 5)) (r' := mm_r115) (as0 := [dz_I a1]) (rest := []) (ls' := [some (.ref 0), some (dz_I a1)]) (pc' := 15) rfl rfl rfl rfl ho_O rfl rfl rfl ?_
    refine jw_O_distance (X := X) (D := D + 0) a1 Z (dz_pm (dz_bi H) (fun q3 H => ?_))
    show mm_Wp X (D + 6) mm_r92 15 [some (.ref 0), some (dz_I a1), none, none] [dz_I q3.1] (hz_0 q3.2) Q
    refine dz_jn (P := fun (q5 : Int) => mm_Wp X (D + 6) mm_r92 24 [some (.ref 0), some (dz_I a1), none, none] [dz_I q5] (hz_0 q3.2) Q) (dz_bi H) (fun q5 H => ?_) (fun H => ?_)
    · skip
      refine wq_st (k := 2) (i := .istore_n 2) (n := 1) (ls' := [some (.ref 0), some (dz_I a1), some (dz_I q5), none]) (pc' := 25) rfl rfl rfl rfl rfl ?_
      refine wp_s (i := .iconst 0) (n := 1) (pc' := 26) (st' := [dz_I 0]) rfl rfl ?_
      refine wq_st (k := 3) (i := .istore_n 3) (n := 1) (ls' := [some (.ref 0), some (dz_I a1), some (dz_I q5), some (dz_I 0)]) (pc' := 27) rfl rfl rfl rfl rfl ?_
      refine dz_lpi (P := fun (s6 : Int × Int × dz_Z) => mm_Wp X (D + 6) mm_r92 27 [some (.ref 0), some (dz_I a1), some (dz_I s6.1), some (dz_I s6.2.1)] [] (hz_0 s6.2.2) Q) (fun s6 H => ?_) 5000 (q5, 0, q3.2) H
      refine wp_s (i := .iload_n 3) (n := 1) (pc' := 28) (st' := [dz_I s6.2.1]) rfl rfl ?_
      refine wp_s (i := .aload_n 0) (n := 1) (pc' := 29) (st' := [.ref 0, dz_I s6.2.1]) rfl rfl ?_
      obtain ⟨k7, H⟩ := dz_ck H
      refine wq_gd (idx := 24) (pc' := 32) rfl rfl ho_O rfl rfl ?_
      refine wq_gi (idx := 111) (pc' := 35) rfl rfl (ho_P k7) rfl rfl ?_
      refine wq_ic (p := dz_c (s6.2.2 ((s6.2.2 0 2 0).toNat) 3 0) ≤ dz_c s6.2.1) (tt := 94) (pc' := 38) rfl rfl (cq_ge rfl rfl) rfl (fun c8 => ?_) (fun c8 => ?_)
      · replace H := dz_it c8 H
        refine wp_s (i := .iload_n 2) (n := 1) (pc' := 95) (st' := [dz_I s6.1]) rfl rfl ?_
        refine wq_ri rfl rfl ?_
        replace H := dz_out H
        replace H := dz_sm H
        exact H
      · replace H := dz_if c8 H
        refine wp_s (i := .aload_n 0) (n := 1) (pc' := 39) (st' := [.ref 0]) rfl rfl ?_
        obtain ⟨k9, H⟩ := dz_ck H
        refine wq_gd (idx := 31) (pc' := 42) rfl rfl ho_O rfl rfl ?_
        refine wq_gr (idx := 143) (a := (s6.2.2 0 3 0).toNat + 2) (pc' := 45) rfl rfl (ho_S k9) rfl rfl ?_
        refine wp_s (i := .iload_n 3) (n := 1) (pc' := 46) (st' := [dz_I s6.2.1, .ref ((s6.2.2 0 3 0).toNat + 2)]) rfl rfl ?_
        obtain ⟨k10, H⟩ := dz_ck H
        refine wq_ia (j' := dz_c s6.2.1) (pc' := 47) rfl (ha_S_1 k9) rfl k10.1 k10.2 rfl ?_
        refine wq_if (p := dz_c (s6.2.2 ((s6.2.2 0 3 0).toNat) 1 (dz_c s6.2.1)) ≠ 0) (tt := 88) (pc' := 50) rfl rfl (cz_ne rfl) rfl (fun c11 => ?_) (fun c11 => ?_)
        · replace H := dz_it c11 H
          refine wq_inc (k := 3) (d := 1) (x := s6.2.1) (ls' := [some (.ref 0), some (dz_I a1), some (dz_I s6.1), some (dz_I (s6.2.1 + 1))]) (pc' := 91) rfl rfl rfl rfl ?_
          refine wp_s (i := .goto (-64)) (n := 3) (pc' := 27) (st' := []) rfl rfl ?_
          replace H := dz_back H
          exact H
        · replace H := dz_if c11 H
          refine wp_s (i := .aload_n 0) (n := 1) (pc' := 51) (st' := [.ref 0]) rfl rfl ?_
          refine wq_gd (idx := 31) (pc' := 54) rfl rfl ho_O rfl rfl ?_
          refine wq_gr (idx := 143) (a := (s6.2.2 0 3 0).toNat + 2) (pc' := 57) rfl rfl (ho_S k9) rfl rfl ?_
          refine wp_s (i := .iload_n 3) (n := 1) (pc' := 58) (st' := [dz_I s6.2.1, .ref ((s6.2.2 0 3 0).toNat + 2)]) rfl rfl ?_
          refine wp_s (i := .iconst 1) (n := 1) (pc' := 59) (st' := [dz_I 1, dz_I s6.2.1, .ref ((s6.2.2 0 3 0).toNat + 2)]) rfl rfl ?_
          refine wq_is (j' := dz_c s6.2.1) (x := 1) (pc' := 60) rfl (ha_S_1 k9) rfl k10.1 k10.2 rfl (fun Z12 eZ12 => ?_)
          replace H := dz_le H Z12 eZ12
          clear eZ12
          refine wp_s (i := .iload_n 2) (n := 1) (pc' := 61) (st' := [dz_I s6.1]) rfl rfl ?_
          refine wp_s (i := .aload_n 0) (n := 1) (pc' := 62) (st' := [.ref 0, dz_I s6.1]) rfl rfl ?_
          refine wp_s (i := .iload_n 1) (n := 1) (pc' := 63) (st' := [dz_I a1, .ref 0, dz_I s6.1]) rfl rfl ?_
          refine wq_cv (Dq := (D + 5)) (r' := mm_r115) (as0 := [dz_I a1]) (rest := [dz_I s6.1]) (ls' := [some (.ref 0), some (dz_I a1)]) (pc' := 66) rfl rfl rfl rfl ho_O rfl rfl rfl ?_
          refine jw_O_distance (X := X) (D := D + 0) a1 Z12 (dz_pm (dz_bi H) (fun q13 H => ?_))
          show mm_Wp X (D + 6) mm_r92 66 [some (.ref 0), some (dz_I a1), some (dz_I s6.1), some (dz_I s6.2.1)] [dz_I q13.1, dz_I s6.1] (hz_0 q13.2) Q
          refine dz_jn (P := fun (q15 : Int) => mm_Wp X (D + 6) mm_r92 76 [some (.ref 0), some (dz_I a1), some (dz_I s6.1), some (dz_I s6.2.1)] [dz_I q15, dz_I s6.1] (hz_0 q13.2) Q) (dz_bi H) (fun q15 H => ?_) (fun H => ?_)
          · skip
            refine wq_2 (i := .ior) (z := dz_or s6.1 q15) (pc' := 77) rfl rfl (op_or _ _) rfl ?_
            refine wq_st (k := 2) (i := .istore_n 2) (n := 1) (ls' := [some (.ref 0), some (dz_I a1), some (dz_I (dz_or s6.1 q15)), some (dz_I s6.2.1)]) (pc' := 78) rfl rfl rfl rfl rfl ?_
            refine wp_s (i := .aload_n 0) (n := 1) (pc' := 79) (st' := [.ref 0]) rfl rfl ?_
            obtain ⟨k16, H⟩ := dz_ck H
            refine wq_gd (idx := 31) (pc' := 82) rfl rfl ho_O rfl rfl ?_
            refine wq_gr (idx := 143) (a := (q13.2 0 3 0).toNat + 2) (pc' := 85) rfl rfl (ho_S k16) rfl rfl ?_
            refine wp_s (i := .iload_n 3) (n := 1) (pc' := 86) (st' := [dz_I s6.2.1, .ref ((q13.2 0 3 0).toNat + 2)]) rfl rfl ?_
            refine wp_s (i := .iconst 0) (n := 1) (pc' := 87) (st' := [dz_I 0, dz_I s6.2.1, .ref ((q13.2 0 3 0).toNat + 2)]) rfl rfl ?_
            refine wq_is (j' := dz_c s6.2.1) (x := 0) (pc' := 88) rfl (ha_S_1 k16) rfl k10.1 k10.2 rfl (fun Z17 eZ17 => ?_)
            replace H := dz_le H Z17 eZ17
            clear eZ17
            refine wq_inc (k := 3) (d := 1) (x := s6.2.1) (ls' := [some (.ref 0), some (dz_I a1), some (dz_I (dz_or s6.1 q15)), some (dz_I (s6.2.1 + 1))]) (pc' := 91) rfl rfl rfl rfl ?_
            refine wp_s (i := .goto (-64)) (n := 3) (pc' := 27) (st' := []) rfl rfl ?_
            replace H := dz_back H
            exact H
          · skip
            refine wq_if (p := dz_c q13.1 ≠ 0) (tt := 75) (pc' := 69) rfl rfl (cz_ne rfl) rfl (fun c18 => ?_) (fun c18 => ?_)
            · replace H := dz_it c18 H
              refine wp_s (i := .iconst 0) (n := 1) (pc' := 76) (st' := [dz_I 0, dz_I s6.1]) rfl rfl ?_
              replace H := dz_sm H
              exact H
            · replace H := dz_if c18 H
              refine wp_s (i := .iconst 1) (n := 1) (pc' := 70) (st' := [dz_I 1, dz_I s6.1]) rfl rfl ?_
              refine wp_s (i := .iload_n 3) (n := 1) (pc' := 71) (st' := [dz_I s6.2.1, dz_I 1, dz_I s6.1]) rfl rfl ?_
              refine wq_2 (i := .ishl) (z := dz_sl 1 s6.2.1) (pc' := 72) rfl rfl (op_shl _ _) rfl ?_
              refine wp_s (i := .goto 4) (n := 3) (pc' := 76) (st' := [dz_I (dz_sl 1 s6.2.1), dz_I s6.1]) rfl rfl ?_
              replace H := dz_sm H
              exact H
    · skip
      refine wq_if (p := dz_c q3.1 ≠ 0) (tt := 23) (pc' := 18) rfl rfl (cz_ne rfl) rfl (fun c19 => ?_) (fun c19 => ?_)
      · replace H := dz_it c19 H
        refine wp_s (i := .iconst 0) (n := 1) (pc' := 24) (st' := [dz_I 0]) rfl rfl ?_
        replace H := dz_sm H
        exact H
      · replace H := dz_if c19 H
        refine wp_s (i := .bipush 32) (n := 2) (pc' := 20) (st' := [dz_I 32]) rfl rfl ?_
        refine wp_s (i := .goto 4) (n := 3) (pc' := 24) (st' := [dz_I 32]) rfl rfl ?_
        replace H := dz_sm H
        exact H
  · replace H := dz_if c2 H
    refine wp_s (i := .iconst (-1)) (n := 1) (pc' := 9) (st' := [dz_I (-1)]) rfl rfl ?_
    refine wq_ri rfl rfl ?_
    replace H := dz_sm H
    exact H
end mg_25m07
