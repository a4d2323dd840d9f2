-- 191
def jf_M_count (a1 : Int) (Z : dz_Z) : Option (Int) := dz_lp (fun (s1 : Int × Int) => if 5 ≤ dz_c s1.2 then (if dz_c a1 = 0 then (some (Sum.inr s1.1)) else (if dz_c a1 = 1 then (Option.bind (jf_M_sumOf 0 118 Z) fun q5 => some (Sum.inr q5)) else (if dz_c a1 = 2 then (Option.bind (α := Int) (if dz_c (Z 114 41 0) = 0 then (some 0) else (some 1)) (fun (q8 : Int) => if dz_c (Z 114 41 1) = 0 then (some (Sum.inr (q8 + 0))) else (some (Sum.inr (q8 + 1))))) else (if dz_c a1 = 3 then (some (Sum.inr (Z 114 22 0))) else (if dz_c a1 = 4 then (if dz_c (Z 114 42 0) ≠ (-4) then (some (Sum.inr (Z 114 43 0))) else (some (Sum.inr (-4)))) else (some (Sum.inr (-1)))))))) else (if 0 ≤ dz_c (5 + s1.2) ∧ dz_c (5 + s1.2) < 700 then some (Sum.inl (s1.1 + (Z 114 0 (dz_c (5 + s1.2))), s1.2 + 1)) else none)) 5000 (0, 0)
set_option maxRecDepth 20000 in
theorem jw_M_count {X : Option (List Int32)} {D : Nat} {Q : Option Value → mm_H → Prop} (a1 : Int) (Z : dz_Z) (H : dz_p (jf_M_count a1 Z) (fun q => Q (some (dz_I q)) (hz_0 Z))) : mm_Wp X (D + 1) mm_r191 0 [some (.ref 114), some (dz_I a1), none, none] [] (hz_0 Z) Q := by
  unfold jf_M_count at H
  refine wp_s (i := .iconst 0) (n := 1) (pc' := 1) (st' := [dz_I 0]) rfl rfl ?_
  refine wq_st (k := 2) (i := .istore_n 2) (n := 1) (ls' := [some (.ref 114), some (dz_I a1), some (dz_I 0), none]) (pc' := 2) rfl rfl rfl rfl rfl ?_
  refine wp_s (i := .iconst 0) (n := 1) (pc' := 3) (st' := [dz_I 0]) rfl rfl ?_
  refine wq_st (k := 3) (i := .istore_n 3) (n := 1) (ls' := [some (.ref 114), some (dz_I a1), some (dz_I 0), some (dz_I 0)]) (pc' := 4) rfl rfl rfl rfl rfl ?_
  refine dz_lpi (P := fun (s1 : Int × Int) => mm_Wp X (D + 1) mm_r191 4 [some (.ref 114), some (dz_I a1), some (dz_I s1.1), some (dz_I s1.2)] [] (hz_0 Z) Q) (fun s1 H => ?_) 5000 (0, 0) H
  refine wp_s (i := .iload_n 3) (n := 1) (pc' := 5) (st' := [dz_I s1.2]) rfl rfl ?_
  refine wp_s (i := .iconst 5) (n := 1) (pc' := 6) (st' := [dz_I 5, dz_I s1.2]) rfl rfl ?_
  refine wq_ic (p := 5 ≤ dz_c s1.2) (tt := 26) (pc' := 9) rfl rfl (cq_ge rfl dk_5) rfl (fun c2 => ?_) (fun c2 => ?_)
  · replace H := dz_it c2 H
    refine wp_s (i := .iload_n 1) (n := 1) (pc' := 27) (st' := [dz_I a1]) rfl rfl ?_
    by_cases c3 : dz_c a1 = 0
    · replace H := dz_it c3 H
      refine wq_ts (x' := dz_c a1) (tt := 60) rfl rfl (by rw [c3]; rfl) ?_
      refine wp_s (i := .iload_n 2) (n := 1) (pc' := 61) (st' := [dz_I s1.1]) rfl rfl ?_
      refine wq_ri rfl rfl ?_
      replace H := dz_out H
      replace H := dz_sm H
      exact H
    · replace H := dz_if c3 H
      by_cases c4 : dz_c a1 = 1
      · replace H := dz_it c4 H
        refine wq_ts (x' := dz_c a1) (tt := 62) rfl rfl (by rw [c4]; rfl) ?_
        refine wp_s (i := .aload_n 0) (n := 1) (pc' := 63) (st' := [.ref 114]) rfl rfl ?_
        refine wp_s (i := .iconst 0) (n := 1) (pc' := 64) (st' := [dz_I 0, .ref 114]) rfl rfl ?_
        refine wp_s (i := .bipush 118) (n := 2) (pc' := 66) (st' := [dz_I 118, dz_I 0, .ref 114]) rfl rfl ?_
        refine wq_cv (Dq := D) (r' := mm_r155) (as0 := [dz_I 0, dz_I 118]) (rest := []) (ls' := [some (.ref 114), some (dz_I 0), some (dz_I 118), none, none]) (pc' := 69) rfl rfl rfl rfl ho_M rfl rfl rfl ?_
        refine jw_M_sumOf (X := X) (D := D + 0) 0 118 Z (dz_pm (dz_bi H) (fun q5 H => ?_))
        show mm_Wp X (D + 1) mm_r191 69 [some (.ref 114), some (dz_I a1), some (dz_I s1.1), some (dz_I s1.2)] [dz_I q5] (hz_0 Z) Q
        refine wq_ri rfl rfl ?_
        replace H := dz_out H
        replace H := dz_sm H
        exact H
      · replace H := dz_if c4 H
        by_cases c6 : dz_c a1 = 2
        · replace H := dz_it c6 H
          refine wq_ts (x' := dz_c a1) (tt := 70) rfl rfl (by rw [c6]; rfl) ?_
          refine wp_s (i := .aload_n 0) (n := 1) (pc' := 71) (st' := [.ref 114]) rfl rfl ?_
          refine wq_gr (idx := 64) (a := 133) (pc' := 74) rfl rfl ho_M rfl rfl ?_
          refine wp_s (i := .iconst 0) (n := 1) (pc' := 75) (st' := [dz_I 0, .ref 133]) rfl rfl ?_
          refine wq_ba (j' := 0) (pc' := 76) rfl (by decide) ha_M_41 dk_0 (by decide) (by decide) rfl ?_
          refine dz_jn (P := fun (q8 : Int) => mm_Wp X (D + 1) mm_r191 84 [some (.ref 114), some (dz_I a1), some (dz_I s1.1), some (dz_I s1.2)] [dz_I q8] (hz_0 Z) Q) (dz_bi H) (fun q8 H => ?_) (fun H => ?_)
          · skip
            refine wp_s (i := .aload_n 0) (n := 1) (pc' := 85) (st' := [.ref 114, dz_I q8]) rfl rfl ?_
            refine wq_gr (idx := 64) (a := 133) (pc' := 88) rfl rfl ho_M rfl rfl ?_
            refine wp_s (i := .iconst 1) (n := 1) (pc' := 89) (st' := [dz_I 1, .ref 133, dz_I q8]) rfl rfl ?_
            refine wq_ba (j' := 1) (pc' := 90) rfl (by decide) ha_M_41 dk_1 (by decide) (by decide) rfl ?_
            refine wq_if (p := dz_c (Z 114 41 1) = 0) (tt := 97) (pc' := 93) rfl rfl (cz_eq rfl) rfl (fun c9 => ?_) (fun c9 => ?_)
            · replace H := dz_it c9 H
              refine wp_s (i := .iconst 0) (n := 1) (pc' := 98) (st' := [dz_I 0, dz_I q8]) rfl rfl ?_
              refine wq_2 (i := .iadd) (z := q8 + 0) (pc' := 99) rfl rfl (op_add _ _) rfl ?_
              refine wq_ri rfl rfl ?_
              replace H := dz_out H
              replace H := dz_sm H
              exact H
            · replace H := dz_if c9 H
              refine wp_s (i := .iconst 1) (n := 1) (pc' := 94) (st' := [dz_I 1, dz_I q8]) rfl rfl ?_
              refine wp_s (i := .goto 4) (n := 3) (pc' := 98) (st' := [dz_I 1, dz_I q8]) rfl rfl ?_
              refine wq_2 (i := .iadd) (z := q8 + 1) (pc' := 99) rfl rfl (op_add _ _) rfl ?_
              refine wq_ri rfl rfl ?_
              replace H := dz_out H
              replace H := dz_sm H
              exact H
          · skip
            refine wq_if (p := dz_c (Z 114 41 0) = 0) (tt := 83) (pc' := 79) rfl rfl (cz_eq rfl) rfl (fun c10 => ?_) (fun c10 => ?_)
            · replace H := dz_it c10 H
              refine wp_s (i := .iconst 0) (n := 1) (pc' := 84) (st' := [dz_I 0]) rfl rfl ?_
              replace H := dz_sm H
              exact H
            · replace H := dz_if c10 H
              refine wp_s (i := .iconst 1) (n := 1) (pc' := 80) (st' := [dz_I 1]) rfl rfl ?_
              refine wp_s (i := .goto 4) (n := 3) (pc' := 84) (st' := [dz_I 1]) rfl rfl ?_
              replace H := dz_sm H
              exact H
        · replace H := dz_if c6 H
          by_cases c11 : dz_c a1 = 3
          · replace H := dz_it c11 H
            refine wq_ts (x' := dz_c a1) (tt := 100) rfl rfl (by rw [c11]; rfl) ?_
            refine wp_s (i := .aload_n 0) (n := 1) (pc' := 101) (st' := [.ref 114]) rfl rfl ?_
            refine wq_gi (idx := 77) (pc' := 104) rfl rfl ho_M rfl rfl ?_
            refine wq_ri rfl rfl ?_
            replace H := dz_out H
            replace H := dz_sm H
            exact H
          · replace H := dz_if c11 H
            by_cases c12 : dz_c a1 = 4
            · replace H := dz_it c12 H
              refine wq_ts (x' := dz_c a1) (tt := 105) rfl rfl (by rw [c12]; rfl) ?_
              refine wp_s (i := .aload_n 0) (n := 1) (pc' := 106) (st' := [.ref 114]) rfl rfl ?_
              refine wq_gr (idx := 68) (a := 134) (pc' := 109) rfl rfl ho_M rfl rfl ?_
              refine wp_s (i := .iconst 0) (n := 1) (pc' := 110) (st' := [dz_I 0, .ref 134]) rfl rfl ?_
              refine wq_ia (j' := 0) (pc' := 111) rfl ha_M_42 dk_0 (by decide) (by decide) rfl ?_
              refine wp_s (i := .bipush (-4)) (n := 2) (pc' := 113) (st' := [dz_I (-4), dz_I (Z 114 42 0)]) rfl rfl ?_
              refine wq_ic (p := dz_c (Z 114 42 0) ≠ (-4)) (tt := 121) (pc' := 116) rfl rfl (cq_ne rfl dk_m4) rfl (fun c13 => ?_) (fun c13 => ?_)
              · replace H := dz_it c13 H
                refine wp_s (i := .aload_n 0) (n := 1) (pc' := 122) (st' := [.ref 114]) rfl rfl ?_
                refine wq_gr (idx := 71) (a := 135) (pc' := 125) rfl rfl ho_M rfl rfl ?_
                refine wp_s (i := .iconst 0) (n := 1) (pc' := 126) (st' := [dz_I 0, .ref 135]) rfl rfl ?_
                refine wq_ia (j' := 0) (pc' := 127) rfl ha_M_43 dk_0 (by decide) (by decide) rfl ?_
                refine wq_ri rfl rfl ?_
                replace H := dz_out H
                replace H := dz_sm H
                exact H
              · replace H := dz_if c13 H
                refine wp_s (i := .bipush (-4)) (n := 2) (pc' := 118) (st' := [dz_I (-4)]) rfl rfl ?_
                refine wp_s (i := .goto 9) (n := 3) (pc' := 127) (st' := [dz_I (-4)]) rfl rfl ?_
                refine wq_ri rfl rfl ?_
                replace H := dz_out H
                replace H := dz_sm H
                exact H
            · replace H := dz_if c12 H
              refine wq_ts (x' := dz_c a1) (tt := 128) rfl rfl (by unfold mm_sw; rw [if_pos (by omega)]; rfl) ?_
              refine wp_s (i := .iconst (-1)) (n := 1) (pc' := 129) (st' := [dz_I (-1)]) rfl rfl ?_
              refine wq_ri rfl rfl ?_
              replace H := dz_out H
              replace H := dz_sm H
              exact H
  · replace H := dz_if c2 H
    refine wp_s (i := .iload_n 2) (n := 1) (pc' := 10) (st' := [dz_I s1.1]) rfl rfl ?_
    refine wp_s (i := .aload_n 0) (n := 1) (pc' := 11) (st' := [.ref 114, dz_I s1.1]) rfl rfl ?_
    refine wq_gr (idx := 7) (a := 115) (pc' := 14) rfl rfl ho_M rfl rfl ?_
    refine wp_s (i := .iconst 5) (n := 1) (pc' := 15) (st' := [dz_I 5, .ref 115, dz_I s1.1]) rfl rfl ?_
    refine wp_s (i := .iload_n 3) (n := 1) (pc' := 16) (st' := [dz_I s1.2, dz_I 5, .ref 115, dz_I s1.1]) rfl rfl ?_
    refine wq_2 (i := .iadd) (z := 5 + s1.2) (pc' := 17) rfl rfl (op_add _ _) rfl ?_
    obtain ⟨k14, H⟩ := dz_ck H
    refine wq_ia (j' := dz_c (5 + s1.2)) (pc' := 18) rfl ha_M_0 rfl k14.1 k14.2 rfl ?_
    refine wq_2 (i := .iadd) (z := s1.1 + (Z 114 0 (dz_c (5 + s1.2)))) (pc' := 19) rfl rfl (op_add _ _) rfl ?_
    refine wq_st (k := 2) (i := .istore_n 2) (n := 1) (ls' := [some (.ref 114), some (dz_I a1), some (dz_I (s1.1 + (Z 114 0 (dz_c (5 + s1.2))))), some (dz_I s1.2)]) (pc' := 20) rfl rfl rfl rfl rfl ?_
    refine wq_inc (k := 3) (d := 1) (x := s1.2) (ls' := [some (.ref 114), some (dz_I a1), some (dz_I (s1.1 + (Z 114 0 (dz_c (5 + s1.2))))), some (dz_I (s1.2 + 1))]) (pc' := 23) rfl rfl rfl rfl ?_
    refine wp_s (i := .goto (-19)) (n := 3) (pc' := 4) (st' := []) rfl rfl ?_
    replace H := dz_back H
    exact H
