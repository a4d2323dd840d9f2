-- 155
def jf_M_sumOf (a1 : Int) (a2 : Int) (Z : dz_Z) : Option (Int) := dz_lp (fun (s1 : Int × Int) => if 8 ≤ dz_c s1.2 then (some (Sum.inr s1.1)) else (if 0 ≤ dz_c ((a1 + a2) + s1.2) ∧ dz_c ((a1 + a2) + s1.2) < 700 then some (Sum.inl (s1.1 + (Z 114 0 (dz_c ((a1 + a2) + s1.2))), s1.2 + 1)) else none)) 5000 (0, 0)
set_option maxRecDepth 20000 in
theorem jw_M_sumOf {X : Option (List Int32)} {D : Nat} {Q : Option Value → mm_H → Prop} (a1 : Int) (a2 : Int) (Z : dz_Z) (H : dz_p (jf_M_sumOf a1 a2 Z) (fun q => Q (some (dz_I q)) (hz_0 Z))) : mm_Wp X D mm_r155 0 [some (.ref 114), some (dz_I a1), some (dz_I a2), none, none] [] (hz_0 Z) Q := by
  unfold jf_M_sumOf at H
  refine wp_s (i := .iconst 0) (n := 1) (pc' := 1) (st' := [dz_I 0]) rfl rfl ?_
  refine wq_st (k := 3) (i := .istore_n 3) (n := 1) (ls' := [some (.ref 114), some (dz_I a1), some (dz_I a2), some (dz_I 0), none]) (pc' := 2) rfl rfl rfl rfl rfl ?_
  refine wp_s (i := .iconst 0) (n := 1) (pc' := 3) (st' := [dz_I 0]) rfl rfl ?_
  refine wq_st (k := 4) (i := .istore 4) (n := 2) (ls' := [some (.ref 114), some (dz_I a1), some (dz_I a2), some (dz_I 0), some (dz_I 0)]) (pc' := 5) rfl rfl rfl rfl rfl ?_
  refine dz_lpi (P := fun (s1 : Int × Int) => mm_Wp X D mm_r155 5 [some (.ref 114), some (dz_I a1), some (dz_I a2), some (dz_I s1.1), some (dz_I s1.2)] [] (hz_0 Z) Q) (fun s1 H => ?_) 5000 (0, 0) H
  refine wp_s (i := .iload 4) (n := 2) (pc' := 7) (st' := [dz_I s1.2]) rfl rfl ?_
  refine wp_s (i := .bipush 8) (n := 2) (pc' := 9) (st' := [dz_I 8, dz_I s1.2]) rfl rfl ?_
  refine wq_ic (p := 8 ≤ dz_c s1.2) (tt := 32) (pc' := 12) rfl rfl (cq_ge rfl dk_8) rfl (fun c2 => ?_) (fun c2 => ?_)
  · replace H := dz_it c2 H
    refine wp_s (i := .iload_n 3) (n := 1) (pc' := 33) (st' := [dz_I s1.1]) rfl rfl ?_
    refine wq_ri rfl rfl ?_
    replace H := dz_out H
    replace H := dz_sm H
    exact H
  · replace H := dz_if c2 H
    refine wp_s (i := .iload_n 3) (n := 1) (pc' := 13) (st' := [dz_I s1.1]) rfl rfl ?_
    refine wp_s (i := .aload_n 0) (n := 1) (pc' := 14) (st' := [.ref 114, dz_I s1.1]) rfl rfl ?_
    refine wq_gr (idx := 7) (a := 115) (pc' := 17) rfl rfl ho_M rfl rfl ?_
    refine wp_s (i := .iload_n 1) (n := 1) (pc' := 18) (st' := [dz_I a1, .ref 115, dz_I s1.1]) rfl rfl ?_
    refine wp_s (i := .iload_n 2) (n := 1) (pc' := 19) (st' := [dz_I a2, dz_I a1, .ref 115, dz_I s1.1]) rfl rfl ?_
    refine wq_2 (i := .iadd) (z := a1 + a2) (pc' := 20) rfl rfl (op_add _ _) rfl ?_
    refine wp_s (i := .iload 4) (n := 2) (pc' := 22) (st' := [dz_I s1.2, dz_I (a1 + a2), .ref 115, dz_I s1.1]) rfl rfl ?_
    refine wq_2 (i := .iadd) (z := (a1 + a2) + s1.2) (pc' := 23) rfl rfl (op_add _ _) rfl ?_
    obtain ⟨k3, H⟩ := dz_ck H
    refine wq_ia (j' := dz_c ((a1 + a2) + s1.2)) (pc' := 24) rfl ha_M_0 rfl k3.1 k3.2 rfl ?_
    refine wq_2 (i := .iadd) (z := s1.1 + (Z 114 0 (dz_c ((a1 + a2) + s1.2)))) (pc' := 25) rfl rfl (op_add _ _) rfl ?_
    refine wq_st (k := 3) (i := .istore_n 3) (n := 1) (ls' := [some (.ref 114), some (dz_I a1), some (dz_I a2), some (dz_I (s1.1 + (Z 114 0 (dz_c ((a1 + a2) + s1.2))))), some (dz_I s1.2)]) (pc' := 26) rfl rfl rfl rfl rfl ?_
    refine wq_inc (k := 4) (d := 1) (x := s1.2) (ls' := [some (.ref 114), some (dz_I a1), some (dz_I a2), some (dz_I (s1.1 + (Z 114 0 (dz_c ((a1 + a2) + s1.2))))), some (dz_I (s1.2 + 1))]) (pc' := 29) rfl rfl rfl rfl ?_
    refine wp_s (i := .goto (-24)) (n := 3) (pc' := 5) (st' := []) rfl rfl ?_
    replace H := dz_back H
    exact H
-- 156
def jf_M_rain (a1 : Int) (Z : dz_Z) : Option (Int × dz_Z) := if ¬(0 ≤ dz_c a1 ∧ dz_c a1 ≤ 9) then (some ((-1), Z)) else (Option.bind (jf_M_second 0 a1 Z) fun q2 => some (q2.1, q2.2))
set_option maxRecDepth 20000 in
theorem jw_M_rain {X : Option (List Int32)} {D : Nat} {Q : Option Value → mm_H → Prop} (a1 : Int) (Z : dz_Z) (H : dz_p (jf_M_rain a1 Z) (fun q => Q (some (dz_I q.1)) (hz_0 q.2))) : mm_Wp X (D + 3) mm_r156 0 [some (.ref 114), some (dz_I a1)] [] (hz_0 Z) Q := by
  unfold jf_M_rain at H
  refine wp_s (i := .iload_n 1) (n := 1) (pc' := 1) (st' := [dz_I a1]) rfl rfl ?_
  refine wq_3 (i := .i2l) (v' := dz_J (dz_c a1)) (pc' := 2) rfl rfl (oq_i2l' rfl) rfl ?_
  refine wp_s (i := .lconst 0) (n := 1) (pc' := 3) (st' := [dz_J 0, dz_J (dz_c a1)]) rfl rfl ?_
  refine wp_s (i := .ldc2_w 223) (n := 3) (pc' := 6) (st' := [dz_J 9, dz_J 0, dz_J (dz_c a1)]) rfl rfl ?_
  refine wq_cs (Dq := (D + 2)) (r' := mm_r120) (as0 := [dz_J (dz_c a1), dz_J 0, dz_J 9]) (rest := []) (ls' := [some (dz_J (dz_c a1)), none, some (dz_J 0), none, some (dz_J 9), none]) (pc' := 9) rfl rfl (by decide) rfl rfl rfl rfl rfl ?_
  refine jw_in (a' := dz_c a1) (b' := 0) (c' := 9) (dz_lc _) (by decide) (by decide) ?_
  show mm_Wp X (D + 3) mm_r156 9 [some (.ref 114), some (dz_I a1)] [dz_B (decide (0 ≤ dz_c a1 ∧ dz_c a1 ≤ 9))] (hz_0 Z) Q
  refine wq_if (p := ¬(0 ≤ dz_c a1 ∧ dz_c a1 ≤ 9)) (tt := 21) (pc' := 12) rfl rfl (cd_eq) rfl (fun c1 => ?_) (fun c1 => ?_)
  · replace H := dz_it c1 H
    refine wp_s (i := .iconst (-1)) (n := 1) (pc' := 22) (st' := [dz_I (-1)]) rfl rfl ?_
    refine wq_ri rfl rfl ?_
    replace H := dz_sm H
    exact H
  · replace H := dz_if c1 H
    refine wp_s (i := .aload_n 0) (n := 1) (pc' := 13) (st' := [.ref 114]) rfl rfl ?_
    refine wp_s (i := .iconst 0) (n := 1) (pc' := 14) (st' := [dz_I 0, .ref 114]) rfl rfl ?_
    refine wp_s (i := .iload_n 1) (n := 1) (pc' := 15) (st' := [dz_I a1, dz_I 0, .ref 114]) rfl rfl ?_
    refine wq_cv (Dq := (D + 2)) (r' := mm_r153) (as0 := [dz_I 0, dz_I a1]) (rest := []) (ls' := [some (.ref 114), some (dz_I 0), some (dz_I a1), none, none, none]) (pc' := 18) rfl rfl rfl rfl ho_M rfl rfl rfl ?_
    refine jw_M_second (X := X) (D := D + 0) 0 a1 Z (dz_pm (dz_bi H) (fun q2 H => ?_))
    show mm_Wp X (D + 3) mm_r156 18 [some (.ref 114), some (dz_I a1)] [dz_I q2.1] (hz_0 q2.2) Q
    refine wp_s (i := .goto 4) (n := 3) (pc' := 22) (st' := [dz_I q2.1]) rfl rfl ?_
    refine wq_ri rfl rfl ?_
    replace H := dz_sm H
    exact H
-- 157
def jf_M_dry (Z : dz_Z) : Option (Int × dz_Z) := Option.bind (jf_M_dries 0 Z) fun q1 => some (Z 114 0 134, q1)
set_option maxRecDepth 20000 in
theorem jw_M_dry {X : Option (List Int32)} {D : Nat} {Q : Option Value → mm_H → Prop} (Z : dz_Z) (H : dz_p (jf_M_dry Z) (fun q => Q (some (dz_I q.1)) (hz_0 q.2))) : mm_Wp X (D + 1) mm_r157 0 [some (.ref 114), none] [] (hz_0 Z) Q := by
  unfold jf_M_dry at H
  refine wp_s (i := .aload_n 0) (n := 1) (pc' := 1) (st' := [.ref 114]) rfl rfl ?_
  refine wq_gr (idx := 7) (a := 115) (pc' := 4) rfl rfl ho_M rfl rfl ?_
  refine wp_s (i := .sipush 134) (n := 3) (pc' := 7) (st' := [dz_I 134, .ref 115]) rfl rfl ?_
  refine wq_ia (j' := 134) (pc' := 8) rfl ha_M_0 dk_134 (by decide) (by decide) rfl ?_
  refine wq_st (k := 1) (i := .istore_n 1) (n := 1) (ls' := [some (.ref 114), some (dz_I (Z 114 0 134))]) (pc' := 9) rfl rfl rfl rfl rfl ?_
  refine wp_s (i := .aload_n 0) (n := 1) (pc' := 10) (st' := [.ref 114]) rfl rfl ?_
  refine wp_s (i := .iconst 0) (n := 1) (pc' := 11) (st' := [dz_I 0, .ref 114]) rfl rfl ?_
  refine wq_cv (Dq := D) (r' := mm_r154) (as0 := [dz_I 0]) (rest := []) (ls' := [some (.ref 114), some (dz_I 0), none]) (pc' := 14) rfl rfl rfl rfl ho_M rfl rfl rfl ?_
  refine jw_M_dries (X := X) (D := D + 0) 0 Z (dz_pm (dz_bi H) (fun q1 H => ?_))
  show mm_Wp X (D + 1) mm_r157 14 [some (.ref 114), some (dz_I (Z 114 0 134))] [] (hz_0 q1) Q
  refine wp_s (i := .iload_n 1) (n := 1) (pc' := 15) (st' := [dz_I (Z 114 0 134)]) rfl rfl ?_
  refine wq_ri rfl rfl ?_
  replace H := dz_sm H
  exact H
-- 158
def jf_M_water (a1 : Int) (Z : dz_Z) : Option (Int) := if dz_c a1 = 0 then (some (Z 114 0 134)) else (if dz_c a1 = 1 then (some (Z 114 0 135)) else (if dz_c a1 = 2 then (some (Z 114 0 136)) else (if dz_c a1 = 3 then (Option.bind (jf_M_sumOf 0 86 Z) fun q5 => some q5) else (if dz_c a1 = 4 then (Option.bind (jf_M_sumOf 0 110 Z) fun q7 => some q7) else (if dz_c a1 = 5 then (some (Z 114 0 137)) else (some (-1)))))))
set_option maxRecDepth 20000 in
theorem jw_M_water {X : Option (List Int32)} {D : Nat} {Q : Option Value → mm_H → Prop} (a1 : Int) (Z : dz_Z) (H : dz_p (jf_M_water a1 Z) (fun q => Q (some (dz_I q)) (hz_0 Z))) : mm_Wp X (D + 1) mm_r158 0 [some (.ref 114), some (dz_I a1)] [] (hz_0 Z) Q := by
  unfold jf_M_water at H
  refine wp_s (i := .iload_n 1) (n := 1) (pc' := 1) (st' := [dz_I a1]) rfl rfl ?_
  by_cases c1 : dz_c a1 = 0
  · replace H := dz_it c1 H
    refine wq_ts (x' := dz_c a1) (tt := 40) rfl rfl (by rw [c1]; rfl) ?_
    refine wp_s (i := .aload_n 0) (n := 1) (pc' := 41) (st' := [.ref 114]) rfl rfl ?_
    refine wq_gr (idx := 7) (a := 115) (pc' := 44) rfl rfl ho_M rfl rfl ?_
    refine wp_s (i := .sipush 134) (n := 3) (pc' := 47) (st' := [dz_I 134, .ref 115]) rfl rfl ?_
    refine wq_ia (j' := 134) (pc' := 48) rfl ha_M_0 dk_134 (by decide) (by decide) rfl ?_
    refine wq_ri rfl rfl ?_
    replace H := dz_sm H
    exact H
  · replace H := dz_if c1 H
    by_cases c2 : dz_c a1 = 1
    · replace H := dz_it c2 H
      refine wq_ts (x' := dz_c a1) (tt := 49) rfl rfl (by rw [c2]; rfl) ?_
      refine wp_s (i := .aload_n 0) (n := 1) (pc' := 50) (st' := [.ref 114]) rfl rfl ?_
      refine wq_gr (idx := 7) (a := 115) (pc' := 53) rfl rfl ho_M rfl rfl ?_
      refine wp_s (i := .sipush 135) (n := 3) (pc' := 56) (st' := [dz_I 135, .ref 115]) rfl rfl ?_
      refine wq_ia (j' := 135) (pc' := 57) rfl ha_M_0 dk_135 (by decide) (by decide) rfl ?_
      refine wq_ri rfl rfl ?_
      replace H := dz_sm H
      exact H
    · replace H := dz_if c2 H
      by_cases c3 : dz_c a1 = 2
      · replace H := dz_it c3 H
        refine wq_ts (x' := dz_c a1) (tt := 58) rfl rfl (by rw [c3]; rfl) ?_
        refine wp_s (i := .aload_n 0) (n := 1) (pc' := 59) (st' := [.ref 114]) rfl rfl ?_
        refine wq_gr (idx := 7) (a := 115) (pc' := 62) rfl rfl ho_M rfl rfl ?_
        refine wp_s (i := .sipush 136) (n := 3) (pc' := 65) (st' := [dz_I 136, .ref 115]) rfl rfl ?_
        refine wq_ia (j' := 136) (pc' := 66) rfl ha_M_0 dk_136 (by decide) (by decide) rfl ?_
        refine wq_ri rfl rfl ?_
        replace H := dz_sm H
        exact H
      · replace H := dz_if c3 H
        by_cases c4 : dz_c a1 = 3
        · replace H := dz_it c4 H
          refine wq_ts (x' := dz_c a1) (tt := 67) rfl rfl (by rw [c4]; rfl) ?_
          refine wp_s (i := .aload_n 0) (n := 1) (pc' := 68) (st' := [.ref 114]) rfl rfl ?_
          refine wp_s (i := .iconst 0) (n := 1) (pc' := 69) (st' := [dz_I 0, .ref 114]) rfl rfl ?_
          refine wp_s (i := .bipush 86) (n := 2) (pc' := 71) (st' := [dz_I 86, dz_I 0, .ref 114]) rfl rfl ?_
          refine wq_cv (Dq := D) (r' := mm_r155) (as0 := [dz_I 0, dz_I 86]) (rest := []) (ls' := [some (.ref 114), some (dz_I 0), some (dz_I 86), none, none]) (pc' := 74) rfl rfl rfl rfl ho_M rfl rfl rfl ?_
          refine jw_M_sumOf (X := X) (D := D + 0) 0 86 Z (dz_pm (dz_bi H) (fun q5 H => ?_))
          show mm_Wp X (D + 1) mm_r158 74 [some (.ref 114), some (dz_I a1)] [dz_I q5] (hz_0 Z) Q
          refine wq_ri rfl rfl ?_
          replace H := dz_sm H
          exact H
        · replace H := dz_if c4 H
          by_cases c6 : dz_c a1 = 4
          · replace H := dz_it c6 H
            refine wq_ts (x' := dz_c a1) (tt := 75) rfl rfl (by rw [c6]; rfl) ?_
            refine wp_s (i := .aload_n 0) (n := 1) (pc' := 76) (st' := [.ref 114]) rfl rfl ?_
            refine wp_s (i := .iconst 0) (n := 1) (pc' := 77) (st' := [dz_I 0, .ref 114]) rfl rfl ?_
            refine wp_s (i := .bipush 110) (n := 2) (pc' := 79) (st' := [dz_I 110, dz_I 0, .ref 114]) rfl rfl ?_
            refine wq_cv (Dq := D) (r' := mm_r155) (as0 := [dz_I 0, dz_I 110]) (rest := []) (ls' := [some (.ref 114), some (dz_I 0), some (dz_I 110), none, none]) (pc' := 82) rfl rfl rfl rfl ho_M rfl rfl rfl ?_
            refine jw_M_sumOf (X := X) (D := D + 0) 0 110 Z (dz_pm (dz_bi H) (fun q7 H => ?_))
            show mm_Wp X (D + 1) mm_r158 82 [some (.ref 114), some (dz_I a1)] [dz_I q7] (hz_0 Z) Q
            refine wq_ri rfl rfl ?_
            replace H := dz_sm H
            exact H
          · replace H := dz_if c6 H
            by_cases c8 : dz_c a1 = 5
            · replace H := dz_it c8 H
              refine wq_ts (x' := dz_c a1) (tt := 83) rfl rfl (by rw [c8]; rfl) ?_
              refine wp_s (i := .aload_n 0) (n := 1) (pc' := 84) (st' := [.ref 114]) rfl rfl ?_
              refine wq_gr (idx := 7) (a := 115) (pc' := 87) rfl rfl ho_M rfl rfl ?_
              refine wp_s (i := .sipush 137) (n := 3) (pc' := 90) (st' := [dz_I 137, .ref 115]) rfl rfl ?_
              refine wq_ia (j' := 137) (pc' := 91) rfl ha_M_0 dk_137 (by decide) (by decide) rfl ?_
              refine wq_ri rfl rfl ?_
              replace H := dz_sm H
              exact H
            · replace H := dz_if c8 H
              refine wq_ts (x' := dz_c a1) (tt := 92) rfl rfl (by unfold mm_sw; rw [if_pos (by omega)]; rfl) ?_
              refine wp_s (i := .iconst (-1)) (n := 1) (pc' := 93) (st' := [dz_I (-1)]) rfl rfl ?_
              refine wq_ri rfl rfl ?_
              replace H := dz_sm H
              exact H
-- 159
def jf_M_loud (a1 : Int) (Z : dz_Z) : Option (Int) := Option.bind (jf_M_isSpout a1 Z) fun q1 => if q1 = false then (some (-1)) else (if 0 ≤ dz_c (126 + a1) ∧ dz_c (126 + a1) < 700 then some (Z 114 0 (dz_c (126 + a1))) else none)
set_option maxRecDepth 20000 in
theorem jw_M_loud {X : Option (List Int32)} {D : Nat} {Q : Option Value → mm_H → Prop} (a1 : Int) (Z : dz_Z) (H : dz_p (jf_M_loud a1 Z) (fun q => Q (some (dz_I q)) (hz_0 Z))) : mm_Wp X (D + 2) mm_r159 0 [some (.ref 114), some (dz_I a1)] [] (hz_0 Z) Q := by
  unfold jf_M_loud at H
  refine wp_s (i := .aload_n 0) (n := 1) (pc' := 1) (st' := [.ref 114]) rfl rfl ?_
  refine wp_s (i := .iload_n 1) (n := 1) (pc' := 2) (st' := [dz_I a1, .ref 114]) rfl rfl ?_
  refine wq_cv (Dq := (D + 1)) (r' := mm_r139) (as0 := [dz_I a1]) (rest := []) (ls' := [some (.ref 114), some (dz_I a1)]) (pc' := 5) rfl rfl rfl rfl ho_M rfl rfl rfl ?_
  refine jw_M_isSpout (X := X) (D := D + 0) a1 Z (dz_pm (dz_bi H) (fun q1 H => ?_))
  show mm_Wp X (D + 2) mm_r159 5 [some (.ref 114), some (dz_I a1)] [dz_B q1] (hz_0 Z) Q
  refine wq_if (p := q1 = false) (tt := 20) (pc' := 8) rfl rfl (cb_eq) rfl (fun c2 => ?_) (fun c2 => ?_)
  · replace H := dz_it c2 H
    refine wp_s (i := .iconst (-1)) (n := 1) (pc' := 21) (st' := [dz_I (-1)]) rfl rfl ?_
    refine wq_ri rfl rfl ?_
    replace H := dz_sm H
    exact H
  · replace H := dz_if c2 H
    refine wp_s (i := .aload_n 0) (n := 1) (pc' := 9) (st' := [.ref 114]) rfl rfl ?_
    refine wq_gr (idx := 7) (a := 115) (pc' := 12) rfl rfl ho_M rfl rfl ?_
    refine wp_s (i := .bipush 126) (n := 2) (pc' := 14) (st' := [dz_I 126, .ref 115]) rfl rfl ?_
    refine wp_s (i := .iload_n 1) (n := 1) (pc' := 15) (st' := [dz_I a1, dz_I 126, .ref 115]) rfl rfl ?_
    refine wq_2 (i := .iadd) (z := 126 + a1) (pc' := 16) rfl rfl (op_add _ _) rfl ?_
    obtain ⟨k3, H⟩ := dz_ck H
    refine wq_ia (j' := dz_c (126 + a1)) (pc' := 17) rfl ha_M_0 rfl k3.1 k3.2 rfl ?_
    refine wp_s (i := .goto 4) (n := 3) (pc' := 21) (st' := [dz_I (Z 114 0 (dz_c (126 + a1)))]) rfl rfl ?_
    refine wq_ri rfl rfl ?_
    replace H := dz_sm H
    exact H
-- 160
def jf_M_lengthOf (a1 : Int) (Z : dz_Z) : Option (Int) := if 0 ≤ dz_c (34 + (13 * a1)) ∧ dz_c (34 + (13 * a1)) < 700 then some (Z 114 0 (dz_c (34 + (13 * a1)))) else none
set_option maxRecDepth 20000 in
theorem jw_M_lengthOf {X : Option (List Int32)} {D : Nat} {Q : Option Value → mm_H → Prop} (a1 : Int) (Z : dz_Z) (H : dz_p (jf_M_lengthOf a1 Z) (fun q => Q (some (dz_I q)) (hz_0 Z))) : mm_Wp X D mm_r160 0 [some (.ref 114), some (dz_I a1)] [] (hz_0 Z) Q := by
  unfold jf_M_lengthOf at H
  refine wp_s (i := .aload_n 0) (n := 1) (pc' := 1) (st' := [.ref 114]) rfl rfl ?_
  refine wq_gr (idx := 7) (a := 115) (pc' := 4) rfl rfl ho_M rfl rfl ?_
  refine wp_s (i := .bipush 34) (n := 2) (pc' := 6) (st' := [dz_I 34, .ref 115]) rfl rfl ?_
  refine wp_s (i := .bipush 13) (n := 2) (pc' := 8) (st' := [dz_I 13, dz_I 34, .ref 115]) rfl rfl ?_
  refine wp_s (i := .iload_n 1) (n := 1) (pc' := 9) (st' := [dz_I a1, dz_I 13, dz_I 34, .ref 115]) rfl rfl ?_
  refine wq_2 (i := .imul) (z := 13 * a1) (pc' := 10) rfl rfl (op_mul _ _) rfl ?_
  refine wq_2 (i := .iadd) (z := 34 + (13 * a1)) (pc' := 11) rfl rfl (op_add _ _) rfl ?_
  obtain ⟨k1, H⟩ := dz_ck H
  refine wq_ia (j' := dz_c (34 + (13 * a1))) (pc' := 12) rfl ha_M_0 rfl k1.1 k1.2 rfl ?_
  refine wq_ri rfl rfl ?_
  replace H := dz_sm H
  exact H
-- 161
def jf_M_showers (a1 : Int) (Z : dz_Z) : Option (dz_Z) := dz_lp (fun (s1 : Int × dz_Z) => Option.bind (jf_M_lengthOf a1 s1.2) fun q3 => if dz_c q3 ≤ dz_c s1.1 then (some (Sum.inr s1.2)) else (if 0 ≤ dz_c (((34 + (13 * a1)) + 1) + s1.1) ∧ dz_c (((34 + (13 * a1)) + 1) + s1.1) < 700 then Option.bind (jf_M_second 420 (s1.2 114 0 (dz_c (((34 + (13 * a1)) + 1) + s1.1))) s1.2) fun q6 => if 0 ≤ dz_c s1.1 ∧ dz_c s1.1 < 12 then dz_a (dz_u q6.2 114 35 (dz_c s1.1) q6.1) fun Z8 => Option.bind (jf_M_sumOf 420 126 Z8) fun q9 => dz_a (dz_u Z8 114 36 (dz_c s1.1) q9) fun Z10 => dz_lp (fun (s11 : Int × dz_Z) => if dz_c (s11.2 114 3 0) ≤ dz_c s11.1 then (some (Sum.inr (Sum.inl (s1.1 + 1, s11.2)))) else (if 0 ≤ dz_c (546 + s11.1) ∧ dz_c (546 + s11.1) < 700 then Option.bind (α := Int) (if dz_c (s11.2 114 0 (dz_c (546 + s11.1))) ≤ 0 then (some 0) else (some (dz_sl 1 s11.1))) (fun (q15 : Int) => dz_a (dz_u s11.2 114 37 0 (dz_or (s11.2 114 37 0) q15)) fun Z16 => some (Sum.inl (s11.1 + 1, Z16))) else none)) 5000 (0, Z10) else none else none)) 5000 (0, Z)
set_option maxRecDepth 20000 in
theorem jw_M_showers {X : Option (List Int32)} {D : Nat} {Q : Option Value → mm_H → Prop} (a1 : Int) (Z : dz_Z) (H : dz_p (jf_M_showers a1 Z) (fun q => Q (none) (hz_0 q))) : mm_Wp X (D + 3) mm_r161 0 [some (.ref 114), some (dz_I a1), none, none] [] (hz_0 Z) Q := by
  unfold jf_M_showers at H
  refine wp_s (i := .iconst 0) (n := 1) (pc' := 1) (st' := [dz_I 0]) rfl rfl ?_
  refine wq_st (k := 2) (i := .istore_n 2) (n := 1) (ls' := [some (.ref 114), some (dz_I a1), some (dz_I 0), none]) (pc' := 2) rfl rfl rfl rfl rfl ?_
  refine dz_lpi (P := fun (s1 : Int × dz_Z) => ∀ (u2 : Option Int32), mm_Wp X (D + 3) mm_r161 2 [some (.ref 114), some (dz_I a1), some (dz_I s1.1), Option.map Value.int u2] [] (hz_0 s1.2) Q) (fun s1 H => ?_) 5000 (0, Z) H none
  intro u2
  refine wp_s (i := .iload_n 2) (n := 1) (pc' := 3) (st' := [dz_I s1.1]) rfl rfl ?_
  refine wp_s (i := .aload_n 0) (n := 1) (pc' := 4) (st' := [.ref 114, dz_I s1.1]) rfl rfl ?_
  refine wp_s (i := .iload_n 1) (n := 1) (pc' := 5) (st' := [dz_I a1, .ref 114, dz_I s1.1]) rfl rfl ?_
  refine wq_cv (Dq := (D + 2)) (r' := mm_r160) (as0 := [dz_I a1]) (rest := [dz_I s1.1]) (ls' := [some (.ref 114), some (dz_I a1)]) (pc' := 8) rfl rfl rfl rfl ho_M rfl rfl rfl ?_
  refine jw_M_lengthOf (X := X) (D := D + 2) a1 s1.2 (dz_pm (dz_bi H) (fun q3 H => ?_))
  show mm_Wp X (D + 3) mm_r161 8 [some (.ref 114), some (dz_I a1), some (dz_I s1.1), Option.map Value.int u2] [dz_I q3, dz_I s1.1] (hz_0 s1.2) Q
  refine wq_ic (p := dz_c q3 ≤ dz_c s1.1) (tt := 106) (pc' := 11) rfl rfl (cq_ge rfl rfl) rfl (fun c4 => ?_) (fun c4 => ?_)
  · replace H := dz_it c4 H
    refine wq_rv rfl rfl ?_
    replace H := dz_out H
    replace H := dz_sm H
    exact H
  · replace H := dz_if c4 H
    refine wp_s (i := .aload_n 0) (n := 1) (pc' := 12) (st' := [.ref 114]) rfl rfl ?_
    refine wq_gr (idx := 58) (a := 131) (pc' := 15) rfl rfl ho_M rfl rfl ?_
    refine wp_s (i := .iload_n 2) (n := 1) (pc' := 16) (st' := [dz_I s1.1, .ref 131]) rfl rfl ?_
    refine wp_s (i := .aload_n 0) (n := 1) (pc' := 17) (st' := [.ref 114, dz_I s1.1, .ref 131]) rfl rfl ?_
    refine wp_s (i := .sipush 420) (n := 3) (pc' := 20) (st' := [dz_I 420, .ref 114, dz_I s1.1, .ref 131]) rfl rfl ?_
    refine wp_s (i := .aload_n 0) (n := 1) (pc' := 21) (st' := [.ref 114, dz_I 420, .ref 114, dz_I s1.1, .ref 131]) rfl rfl ?_
    refine wq_gr (idx := 7) (a := 115) (pc' := 24) rfl rfl ho_M rfl rfl ?_
    refine wp_s (i := .bipush 34) (n := 2) (pc' := 26) (st' := [dz_I 34, .ref 115, dz_I 420, .ref 114, dz_I s1.1, .ref 131]) rfl rfl ?_
    refine wp_s (i := .bipush 13) (n := 2) (pc' := 28) (st' := [dz_I 13, dz_I 34, .ref 115, dz_I 420, .ref 114, dz_I s1.1, .ref 131]) rfl rfl ?_
    refine wp_s (i := .iload_n 1) (n := 1) (pc' := 29) (st' := [dz_I a1, dz_I 13, dz_I 34, .ref 115, dz_I 420, .ref 114, dz_I s1.1, .ref 131]) rfl rfl ?_
    refine wq_2 (i := .imul) (z := 13 * a1) (pc' := 30) rfl rfl (op_mul _ _) rfl ?_
    refine wq_2 (i := .iadd) (z := 34 + (13 * a1)) (pc' := 31) rfl rfl (op_add _ _) rfl ?_
    refine wp_s (i := .iconst 1) (n := 1) (pc' := 32) (st' := [dz_I 1, dz_I (34 + (13 * a1)), .ref 115, dz_I 420, .ref 114, dz_I s1.1, .ref 131]) rfl rfl ?_
    refine wq_2 (i := .iadd) (z := (34 + (13 * a1)) + 1) (pc' := 33) rfl rfl (op_add _ _) rfl ?_
    refine wp_s (i := .iload_n 2) (n := 1) (pc' := 34) (st' := [dz_I s1.1, dz_I ((34 + (13 * a1)) + 1), .ref 115, dz_I 420, .ref 114, dz_I s1.1, .ref 131]) rfl rfl ?_
    refine wq_2 (i := .iadd) (z := ((34 + (13 * a1)) + 1) + s1.1) (pc' := 35) rfl rfl (op_add _ _) rfl ?_
    obtain ⟨k5, H⟩ := dz_ck H
    refine wq_ia (j' := dz_c (((34 + (13 * a1)) + 1) + s1.1)) (pc' := 36) rfl ha_M_0 rfl k5.1 k5.2 rfl ?_
    refine wq_cv (Dq := (D + 2)) (r' := mm_r153) (as0 := [dz_I 420, dz_I (s1.2 114 0 (dz_c (((34 + (13 * a1)) + 1) + s1.1)))]) (rest := [dz_I s1.1, .ref 131]) (ls' := [some (.ref 114), some (dz_I 420), some (dz_I (s1.2 114 0 (dz_c (((34 + (13 * a1)) + 1) + s1.1)))), none, none, none]) (pc' := 39) rfl rfl rfl rfl ho_M rfl rfl rfl ?_
    refine jw_M_second (X := X) (D := D + 0) 420 (s1.2 114 0 (dz_c (((34 + (13 * a1)) + 1) + s1.1))) s1.2 (dz_pm (dz_bi H) (fun q6 H => ?_))
    show mm_Wp X (D + 3) mm_r161 39 [some (.ref 114), some (dz_I a1), some (dz_I s1.1), Option.map Value.int u2] [dz_I q6.1, dz_I s1.1, .ref 131] (hz_0 q6.2) Q
    obtain ⟨k7, H⟩ := dz_ck H
    refine wq_is (j' := dz_c s1.1) (x := q6.1) (pc' := 40) rfl ha_M_35 rfl k7.1 k7.2 rfl (fun Z8 eZ8 => ?_)
    replace H := dz_le H Z8 eZ8
    clear eZ8
    refine wp_s (i := .aload_n 0) (n := 1) (pc' := 41) (st' := [.ref 114]) rfl rfl ?_
    refine wq_gr (idx := 61) (a := 132) (pc' := 44) rfl rfl ho_M rfl rfl ?_
    refine wp_s (i := .iload_n 2) (n := 1) (pc' := 45) (st' := [dz_I s1.1, .ref 132]) rfl rfl ?_
    refine wp_s (i := .aload_n 0) (n := 1) (pc' := 46) (st' := [.ref 114, dz_I s1.1, .ref 132]) rfl rfl ?_
    refine wp_s (i := .sipush 420) (n := 3) (pc' := 49) (st' := [dz_I 420, .ref 114, dz_I s1.1, .ref 132]) rfl rfl ?_
    refine wp_s (i := .bipush 126) (n := 2) (pc' := 51) (st' := [dz_I 126, dz_I 420, .ref 114, dz_I s1.1, .ref 132]) rfl rfl ?_
    refine wq_cv (Dq := (D + 2)) (r' := mm_r155) (as0 := [dz_I 420, dz_I 126]) (rest := [dz_I s1.1, .ref 132]) (ls' := [some (.ref 114), some (dz_I 420), some (dz_I 126), none, none]) (pc' := 54) rfl rfl rfl rfl ho_M rfl rfl rfl ?_
    refine jw_M_sumOf (X := X) (D := D + 2) 420 126 Z8 (dz_pm (dz_bi H) (fun q9 H => ?_))
    show mm_Wp X (D + 3) mm_r161 54 [some (.ref 114), some (dz_I a1), some (dz_I s1.1), Option.map Value.int u2] [dz_I q9, dz_I s1.1, .ref 132] (hz_0 Z8) Q
    refine wq_is (j' := dz_c s1.1) (x := q9) (pc' := 55) rfl ha_M_36 rfl k7.1 k7.2 rfl (fun Z10 eZ10 => ?_)
    replace H := dz_le H Z10 eZ10
    clear eZ10
    refine wp_s (i := .iconst 0) (n := 1) (pc' := 56) (st' := [dz_I 0]) rfl rfl ?_
    refine wq_st (k := 3) (i := .istore_n 3) (n := 1) (ls' := [some (.ref 114), some (dz_I a1), some (dz_I s1.1), some (dz_I 0)]) (pc' := 57) rfl rfl rfl rfl rfl ?_
    refine dz_lpi (P := fun (s11 : Int × dz_Z) => mm_Wp X (D + 3) mm_r161 57 [some (.ref 114), some (dz_I a1), some (dz_I s1.1), some (dz_I s11.1)] [] (hz_0 s11.2) Q) (fun s11 H => ?_) 5000 (0, Z10) H
    refine wp_s (i := .iload_n 3) (n := 1) (pc' := 58) (st' := [dz_I s11.1]) rfl rfl ?_
    refine wp_s (i := .aload_n 0) (n := 1) (pc' := 59) (st' := [.ref 114, dz_I s11.1]) rfl rfl ?_
    refine wq_gi (idx := 170) (pc' := 62) rfl rfl ho_M rfl rfl ?_
    refine wq_ic (p := dz_c (s11.2 114 3 0) ≤ dz_c s11.1) (tt := 100) (pc' := 65) rfl rfl (cq_ge rfl rfl) rfl (fun c12 => ?_) (fun c12 => ?_)
    · replace H := dz_it c12 H
      refine wq_inc (k := 2) (d := 1) (x := s1.1) (ls' := [some (.ref 114), some (dz_I a1), some (dz_I (s1.1 + 1)), some (dz_I s11.1)]) (pc' := 103) rfl rfl rfl rfl ?_
      refine wp_s (i := .goto (-101)) (n := 3) (pc' := 2) (st' := []) rfl rfl ?_
      replace H := dz_out H
      replace H := dz_back H
      exact H (some (Int32.ofInt s11.1))
    · replace H := dz_if c12 H
      refine wp_s (i := .aload_n 0) (n := 1) (pc' := 66) (st' := [.ref 114]) rfl rfl ?_
      refine wp_s (i := .dup) (n := 1) (pc' := 67) (st' := [.ref 114, .ref 114]) rfl rfl ?_
      refine wq_gi (idx := 237) (pc' := 70) rfl rfl ho_M rfl rfl ?_
      refine wp_s (i := .aload_n 0) (n := 1) (pc' := 71) (st' := [.ref 114, dz_I (s11.2 114 37 0), .ref 114]) rfl rfl ?_
      refine wq_gr (idx := 7) (a := 115) (pc' := 74) rfl rfl ho_M rfl rfl ?_
      refine wp_s (i := .sipush 546) (n := 3) (pc' := 77) (st' := [dz_I 546, .ref 115, dz_I (s11.2 114 37 0), .ref 114]) rfl rfl ?_
      refine wp_s (i := .iload_n 3) (n := 1) (pc' := 78) (st' := [dz_I s11.1, dz_I 546, .ref 115, dz_I (s11.2 114 37 0), .ref 114]) rfl rfl ?_
      refine wq_2 (i := .iadd) (z := 546 + s11.1) (pc' := 79) rfl rfl (op_add _ _) rfl ?_
      obtain ⟨k13, H⟩ := dz_ck H
      refine wq_ia (j' := dz_c (546 + s11.1)) (pc' := 80) rfl ha_M_0 rfl k13.1 k13.2 rfl ?_
      refine dz_jn (P := fun (q15 : Int) => mm_Wp X (D + 3) mm_r161 90 [some (.ref 114), some (dz_I a1), some (dz_I s1.1), some (dz_I s11.1)] [dz_I q15, dz_I (s11.2 114 37 0), .ref 114] (hz_0 s11.2) Q) (dz_bi H) (fun q15 H => ?_) (fun H => ?_)
      · skip
        refine wq_2 (i := .ior) (z := dz_or (s11.2 114 37 0) q15) (pc' := 91) rfl rfl (op_or _ _) rfl ?_
        refine wq_pi (idx := 237) (x := dz_or (s11.2 114 37 0) q15) (pc' := 94) rfl rfl rfl ho_M rfl rfl rfl rfl (fun Z16 eZ16 => ?_)
        replace H := dz_le H Z16 eZ16
        clear eZ16
        refine wq_inc (k := 3) (d := 1) (x := s11.1) (ls' := [some (.ref 114), some (dz_I a1), some (dz_I s1.1), some (dz_I (s11.1 + 1))]) (pc' := 97) rfl rfl rfl rfl ?_
        refine wp_s (i := .goto (-40)) (n := 3) (pc' := 57) (st' := []) rfl rfl ?_
        replace H := dz_back H
        exact H
      · skip
        refine wq_if (p := dz_c (s11.2 114 0 (dz_c (546 + s11.1))) ≤ 0) (tt := 89) (pc' := 83) rfl rfl (cz_le rfl) rfl (fun c17 => ?_) (fun c17 => ?_)
        · replace H := dz_it c17 H
          refine wp_s (i := .iconst 0) (n := 1) (pc' := 90) (st' := [dz_I 0, dz_I (s11.2 114 37 0), .ref 114]) rfl rfl ?_
          replace H := dz_sm H
          exact H
        · replace H := dz_if c17 H
          refine wp_s (i := .iconst 1) (n := 1) (pc' := 84) (st' := [dz_I 1, dz_I (s11.2 114 37 0), .ref 114]) rfl rfl ?_
          refine wp_s (i := .iload_n 3) (n := 1) (pc' := 85) (st' := [dz_I s11.1, dz_I 1, dz_I (s11.2 114 37 0), .ref 114]) rfl rfl ?_
          refine wq_2 (i := .ishl) (z := dz_sl 1 s11.1) (pc' := 86) rfl rfl (op_shl _ _) rfl ?_
          refine wp_s (i := .goto 4) (n := 3) (pc' := 90) (st' := [dz_I (dz_sl 1 s11.1), dz_I (s11.2 114 37 0), .ref 114]) rfl rfl ?_
          replace H := dz_sm H
          exact H
-- 162
def jf_M_plays2 (a1 : Int) (Z : dz_Z) : Option (dz_Z) := Option.bind (jf_M_dries 420 Z) fun q1 => dz_a (dz_u q1 114 37 0 0) fun Z2 => Option.bind (jf_M_showers a1 Z2) fun q3 => some q3
set_option maxRecDepth 20000 in
theorem jw_M_plays2 {X : Option (List Int32)} {D : Nat} {Q : Option Value → mm_H → Prop} (a1 : Int) (Z : dz_Z) (H : dz_p (jf_M_plays2 a1 Z) (fun q => Q (none) (hz_0 q))) : mm_Wp X (D + 4) mm_r162 0 [some (.ref 114), some (dz_I a1)] [] (hz_0 Z) Q := by
  unfold jf_M_plays2 at H
  refine wp_s (i := .aload_n 0) (n := 1) (pc' := 1) (st' := [.ref 114]) rfl rfl ?_
  refine wp_s (i := .sipush 420) (n := 3) (pc' := 4) (st' := [dz_I 420, .ref 114]) rfl rfl ?_
  refine wq_cv (Dq := (D + 3)) (r' := mm_r154) (as0 := [dz_I 420]) (rest := []) (ls' := [some (.ref 114), some (dz_I 420), none]) (pc' := 7) rfl rfl rfl rfl ho_M rfl rfl rfl ?_
  refine jw_M_dries (X := X) (D := D + 3) 420 Z (dz_pm (dz_bi H) (fun q1 H => ?_))
  show mm_Wp X (D + 4) mm_r162 7 [some (.ref 114), some (dz_I a1)] [] (hz_0 q1) Q
  refine wp_s (i := .aload_n 0) (n := 1) (pc' := 8) (st' := [.ref 114]) rfl rfl ?_
  refine wp_s (i := .iconst 0) (n := 1) (pc' := 9) (st' := [dz_I 0, .ref 114]) rfl rfl ?_
  refine wq_pi (idx := 237) (x := 0) (pc' := 12) rfl rfl rfl ho_M rfl rfl rfl rfl (fun Z2 eZ2 => ?_)
  replace H := dz_le H Z2 eZ2
  clear eZ2
  refine wp_s (i := .aload_n 0) (n := 1) (pc' := 13) (st' := [.ref 114]) rfl rfl ?_
  refine wp_s (i := .iload_n 1) (n := 1) (pc' := 14) (st' := [dz_I a1, .ref 114]) rfl rfl ?_
  refine wq_cv (Dq := (D + 3)) (r' := mm_r161) (as0 := [dz_I a1]) (rest := []) (ls' := [some (.ref 114), some (dz_I a1), none, none]) (pc' := 17) rfl rfl rfl rfl ho_M rfl rfl rfl ?_
  refine jw_M_showers (X := X) (D := D + 0) a1 Z2 (dz_pm (dz_bi H) (fun q3 H => ?_))
  show mm_Wp X (D + 4) mm_r162 17 [some (.ref 114), some (dz_I a1)] [] (hz_0 q3) Q
  refine wq_rv rfl rfl ?_
  replace H := dz_sm H
  exact H
-- 163
def jf_M_shower (a1 : Int) (a2 : Int) (Z : dz_Z) : Option (Int) := Option.bind (jf_M_isShower a1 Z) fun q1 => if q1 = true then (if dz_c a2 ≠ (-1) then (Option.bind (jf_M_lengthOf a1 Z) fun q4 => if ¬(0 ≤ dz_c a2 ∧ dz_c a2 ≤ dz_c (q4 - 1)) then (some (-1)) else (if 0 ≤ dz_c (((34 + (13 * a1)) + 1) + a2) ∧ dz_c (((34 + (13 * a1)) + 1) + a2) < 700 then some (Z 114 0 (dz_c (((34 + (13 * a1)) + 1) + a2))) else none)) else (Option.bind (jf_M_lengthOf a1 Z) fun q7 => some q7)) else (some (-1))
set_option maxRecDepth 20000 in
theorem jw_M_shower {X : Option (List Int32)} {D : Nat} {Q : Option Value → mm_H → Prop} (a1 : Int) (a2 : Int) (Z : dz_Z) (H : dz_p (jf_M_shower a1 a2 Z) (fun q => Q (some (dz_I q)) (hz_0 Z))) : mm_Wp X (D + 2) mm_r163 0 [some (.ref 114), some (dz_I a1), some (dz_I a2)] [] (hz_0 Z) Q := by
  unfold jf_M_shower at H
  refine wp_s (i := .aload_n 0) (n := 1) (pc' := 1) (st' := [.ref 114]) rfl rfl ?_
  refine wp_s (i := .iload_n 1) (n := 1) (pc' := 2) (st' := [dz_I a1, .ref 114]) rfl rfl ?_
  refine wq_cv (Dq := (D + 1)) (r' := mm_r140) (as0 := [dz_I a1]) (rest := []) (ls' := [some (.ref 114), some (dz_I a1)]) (pc' := 5) rfl rfl rfl rfl ho_M rfl rfl rfl ?_
  refine jw_M_isShower (X := X) (D := D + 0) a1 Z (dz_pm (dz_bi H) (fun q1 H => ?_))
  show mm_Wp X (D + 2) mm_r163 5 [some (.ref 114), some (dz_I a1), some (dz_I a2)] [dz_B q1] (hz_0 Z) Q
  refine wq_if (p := q1 = true) (tt := 10) (pc' := 8) rfl rfl (cb_ne) rfl (fun c2 => ?_) (fun c2 => ?_)
  · replace H := dz_it c2 H
    refine wp_s (i := .iload_n 2) (n := 1) (pc' := 11) (st' := [dz_I a2]) rfl rfl ?_
    refine wp_s (i := .iconst (-1)) (n := 1) (pc' := 12) (st' := [dz_I (-1), dz_I a2]) rfl rfl ?_
    refine wq_ic (p := dz_c a2 ≠ (-1)) (tt := 23) (pc' := 15) rfl rfl (cq_ne rfl dk_m1) rfl (fun c3 => ?_) (fun c3 => ?_)
    · replace H := dz_it c3 H
      refine wp_s (i := .iload_n 2) (n := 1) (pc' := 24) (st' := [dz_I a2]) rfl rfl ?_
      refine wq_3 (i := .i2l) (v' := dz_J (dz_c a2)) (pc' := 25) rfl rfl (oq_i2l' rfl) rfl ?_
      refine wp_s (i := .lconst 0) (n := 1) (pc' := 26) (st' := [dz_J 0, dz_J (dz_c a2)]) rfl rfl ?_
      refine wp_s (i := .aload_n 0) (n := 1) (pc' := 27) (st' := [.ref 114, dz_J 0, dz_J (dz_c a2)]) rfl rfl ?_
      refine wp_s (i := .iload_n 1) (n := 1) (pc' := 28) (st' := [dz_I a1, .ref 114, dz_J 0, dz_J (dz_c a2)]) rfl rfl ?_
      refine wq_cv (Dq := (D + 1)) (r' := mm_r160) (as0 := [dz_I a1]) (rest := [dz_J 0, dz_J (dz_c a2)]) (ls' := [some (.ref 114), some (dz_I a1)]) (pc' := 31) rfl rfl rfl rfl ho_M rfl rfl rfl ?_
      refine jw_M_lengthOf (X := X) (D := D + 1) a1 Z (dz_pm (dz_bi H) (fun q4 H => ?_))
      show mm_Wp X (D + 2) mm_r163 31 [some (.ref 114), some (dz_I a1), some (dz_I a2)] [dz_I q4, dz_J 0, dz_J (dz_c a2)] (hz_0 Z) Q
      refine wp_s (i := .iconst 1) (n := 1) (pc' := 32) (st' := [dz_I 1, dz_I q4, dz_J 0, dz_J (dz_c a2)]) rfl rfl ?_
      refine wq_2 (i := .isub) (z := q4 - 1) (pc' := 33) rfl rfl (op_sub _ _) rfl ?_
      refine wq_3 (i := .i2l) (v' := dz_J (dz_c (q4 - 1))) (pc' := 34) rfl rfl (oq_i2l' rfl) rfl ?_
      refine wq_cs (Dq := (D + 1)) (r' := mm_r120) (as0 := [dz_J (dz_c a2), dz_J 0, dz_J (dz_c (q4 - 1))]) (rest := []) (ls' := [some (dz_J (dz_c a2)), none, some (dz_J 0), none, some (dz_J (dz_c (q4 - 1))), none]) (pc' := 37) rfl rfl (by decide) rfl rfl rfl rfl rfl ?_
      refine jw_in (a' := dz_c a2) (b' := 0) (c' := dz_c (q4 - 1)) (dz_lc _) (by decide) (dz_lc _) ?_
      show mm_Wp X (D + 2) mm_r163 37 [some (.ref 114), some (dz_I a1), some (dz_I a2)] [dz_B (decide (0 ≤ dz_c a2 ∧ dz_c a2 ≤ dz_c (q4 - 1)))] (hz_0 Z) Q
      refine wq_if (p := ¬(0 ≤ dz_c a2 ∧ dz_c a2 ≤ dz_c (q4 - 1))) (tt := 59) (pc' := 40) rfl rfl (cd_eq) rfl (fun c5 => ?_) (fun c5 => ?_)
      · replace H := dz_it c5 H
        refine wp_s (i := .iconst (-1)) (n := 1) (pc' := 60) (st' := [dz_I (-1)]) rfl rfl ?_
        refine wq_ri rfl rfl ?_
        replace H := dz_sm H
        exact H
      · replace H := dz_if c5 H
        refine wp_s (i := .aload_n 0) (n := 1) (pc' := 41) (st' := [.ref 114]) rfl rfl ?_
        refine wq_gr (idx := 7) (a := 115) (pc' := 44) rfl rfl ho_M rfl rfl ?_
        refine wp_s (i := .bipush 34) (n := 2) (pc' := 46) (st' := [dz_I 34, .ref 115]) rfl rfl ?_
        refine wp_s (i := .bipush 13) (n := 2) (pc' := 48) (st' := [dz_I 13, dz_I 34, .ref 115]) rfl rfl ?_
        refine wp_s (i := .iload_n 1) (n := 1) (pc' := 49) (st' := [dz_I a1, dz_I 13, dz_I 34, .ref 115]) rfl rfl ?_
        refine wq_2 (i := .imul) (z := 13 * a1) (pc' := 50) rfl rfl (op_mul _ _) rfl ?_
        refine wq_2 (i := .iadd) (z := 34 + (13 * a1)) (pc' := 51) rfl rfl (op_add _ _) rfl ?_
        refine wp_s (i := .iconst 1) (n := 1) (pc' := 52) (st' := [dz_I 1, dz_I (34 + (13 * a1)), .ref 115]) rfl rfl ?_
        refine wq_2 (i := .iadd) (z := (34 + (13 * a1)) + 1) (pc' := 53) rfl rfl (op_add _ _) rfl ?_
        refine wp_s (i := .iload_n 2) (n := 1) (pc' := 54) (st' := [dz_I a2, dz_I ((34 + (13 * a1)) + 1), .ref 115]) rfl rfl ?_
        refine wq_2 (i := .iadd) (z := ((34 + (13 * a1)) + 1) + a2) (pc' := 55) rfl rfl (op_add _ _) rfl ?_
        obtain ⟨k6, H⟩ := dz_ck H
        refine wq_ia (j' := dz_c (((34 + (13 * a1)) + 1) + a2)) (pc' := 56) rfl ha_M_0 rfl k6.1 k6.2 rfl ?_
        refine wp_s (i := .goto 4) (n := 3) (pc' := 60) (st' := [dz_I (Z 114 0 (dz_c (((34 + (13 * a1)) + 1) + a2)))]) rfl rfl ?_
        refine wq_ri rfl rfl ?_
        replace H := dz_sm H
        exact H
    · replace H := dz_if c3 H
      refine wp_s (i := .aload_n 0) (n := 1) (pc' := 16) (st' := [.ref 114]) rfl rfl ?_
      refine wp_s (i := .iload_n 1) (n := 1) (pc' := 17) (st' := [dz_I a1, .ref 114]) rfl rfl ?_
      refine wq_cv (Dq := (D + 1)) (r' := mm_r160) (as0 := [dz_I a1]) (rest := []) (ls' := [some (.ref 114), some (dz_I a1)]) (pc' := 20) rfl rfl rfl rfl ho_M rfl rfl rfl ?_
      refine jw_M_lengthOf (X := X) (D := D + 1) a1 Z (dz_pm (dz_bi H) (fun q7 H => ?_))
      show mm_Wp X (D + 2) mm_r163 20 [some (.ref 114), some (dz_I a1), some (dz_I a2)] [dz_I q7] (hz_0 Z) Q
      refine wp_s (i := .goto 40) (n := 3) (pc' := 60) (st' := [dz_I q7]) rfl rfl ?_
      refine wq_ri rfl rfl ?_
      replace H := dz_sm H
      exact H
  · replace H := dz_if c2 H
    refine wp_s (i := .iconst (-1)) (n := 1) (pc' := 9) (st' := [dz_I (-1)]) rfl rfl ?_
    refine wq_ri rfl rfl ?_
    replace H := dz_sm H
    exact H
-- 164
def jf_M_plays (a1 : Int) (a2 : Int) (Z : dz_Z) : Option (Int × dz_Z) := Option.bind (jf_M_isShower a1 Z) fun q1 => if q1 = false then (some ((-1), Z)) else (Option.bind (jf_M_lengthOf a1 Z) fun q3 => if 0 ≤ dz_c a2 ∧ dz_c a2 ≤ dz_c (q3 - 1) then (Option.bind (jf_M_plays2 a1 Z) fun q5 => if 0 ≤ dz_c a2 ∧ dz_c a2 < 12 then some (q5 114 35 (dz_c a2), q5) else none) else (some ((-1), Z)))
set_option maxRecDepth 20000 in
theorem jw_M_plays {X : Option (List Int32)} {D : Nat} {Q : Option Value → mm_H → Prop} (a1 : Int) (a2 : Int) (Z : dz_Z) (H : dz_p (jf_M_plays a1 a2 Z) (fun q => Q (some (dz_I q.1)) (hz_0 q.2))) : mm_Wp X (D + 5) mm_r164 0 [some (.ref 114), some (dz_I a1), some (dz_I a2)] [] (hz_0 Z) Q := by
  unfold jf_M_plays at H
  refine wp_s (i := .aload_n 0) (n := 1) (pc' := 1) (st' := [.ref 114]) rfl rfl ?_
  refine wp_s (i := .iload_n 1) (n := 1) (pc' := 2) (st' := [dz_I a1, .ref 114]) rfl rfl ?_
  refine wq_cv (Dq := (D + 4)) (r' := mm_r140) (as0 := [dz_I a1]) (rest := []) (ls' := [some (.ref 114), some (dz_I a1)]) (pc' := 5) rfl rfl rfl rfl ho_M rfl rfl rfl ?_
  refine jw_M_isShower (X := X) (D := D + 3) a1 Z (dz_pm (dz_bi H) (fun q1 H => ?_))
  show mm_Wp X (D + 5) mm_r164 5 [some (.ref 114), some (dz_I a1), some (dz_I a2)] [dz_B q1] (hz_0 Z) Q
  refine wq_if (p := q1 = false) (tt := 25) (pc' := 8) rfl rfl (cb_eq) rfl (fun c2 => ?_) (fun c2 => ?_)
  · replace H := dz_it c2 H
    refine wp_s (i := .iconst (-1)) (n := 1) (pc' := 26) (st' := [dz_I (-1)]) rfl rfl ?_
    refine wq_ri rfl rfl ?_
    replace H := dz_sm H
    exact H
  · replace H := dz_if c2 H
    refine wp_s (i := .iload_n 2) (n := 1) (pc' := 9) (st' := [dz_I a2]) rfl rfl ?_
    refine wq_3 (i := .i2l) (v' := dz_J (dz_c a2)) (pc' := 10) rfl rfl (oq_i2l' rfl) rfl ?_
    refine wp_s (i := .lconst 0) (n := 1) (pc' := 11) (st' := [dz_J 0, dz_J (dz_c a2)]) rfl rfl ?_
    refine wp_s (i := .aload_n 0) (n := 1) (pc' := 12) (st' := [.ref 114, dz_J 0, dz_J (dz_c a2)]) rfl rfl ?_
    refine wp_s (i := .iload_n 1) (n := 1) (pc' := 13) (st' := [dz_I a1, .ref 114, dz_J 0, dz_J (dz_c a2)]) rfl rfl ?_
    refine wq_cv (Dq := (D + 4)) (r' := mm_r160) (as0 := [dz_I a1]) (rest := [dz_J 0, dz_J (dz_c a2)]) (ls' := [some (.ref 114), some (dz_I a1)]) (pc' := 16) rfl rfl rfl rfl ho_M rfl rfl rfl ?_
    refine jw_M_lengthOf (X := X) (D := D + 4) a1 Z (dz_pm (dz_bi H) (fun q3 H => ?_))
    show mm_Wp X (D + 5) mm_r164 16 [some (.ref 114), some (dz_I a1), some (dz_I a2)] [dz_I q3, dz_J 0, dz_J (dz_c a2)] (hz_0 Z) Q
    refine wp_s (i := .iconst 1) (n := 1) (pc' := 17) (st' := [dz_I 1, dz_I q3, dz_J 0, dz_J (dz_c a2)]) rfl rfl ?_
    refine wq_2 (i := .isub) (z := q3 - 1) (pc' := 18) rfl rfl (op_sub _ _) rfl ?_
    refine wq_3 (i := .i2l) (v' := dz_J (dz_c (q3 - 1))) (pc' := 19) rfl rfl (oq_i2l' rfl) rfl ?_
    refine wq_cs (Dq := (D + 4)) (r' := mm_r120) (as0 := [dz_J (dz_c a2), dz_J 0, dz_J (dz_c (q3 - 1))]) (rest := []) (ls' := [some (dz_J (dz_c a2)), none, some (dz_J 0), none, some (dz_J (dz_c (q3 - 1))), none]) (pc' := 22) rfl rfl (by decide) rfl rfl rfl rfl rfl ?_
    refine jw_in (a' := dz_c a2) (b' := 0) (c' := dz_c (q3 - 1)) (dz_lc _) (by decide) (dz_lc _) ?_
    show mm_Wp X (D + 5) mm_r164 22 [some (.ref 114), some (dz_I a1), some (dz_I a2)] [dz_B (decide (0 ≤ dz_c a2 ∧ dz_c a2 ≤ dz_c (q3 - 1)))] (hz_0 Z) Q
    refine wq_if (p := 0 ≤ dz_c a2 ∧ dz_c a2 ≤ dz_c (q3 - 1)) (tt := 27) (pc' := 25) rfl rfl (cd_ne) rfl (fun c4 => ?_) (fun c4 => ?_)
    · replace H := dz_it c4 H
      refine wp_s (i := .aload_n 0) (n := 1) (pc' := 28) (st' := [.ref 114]) rfl rfl ?_
      refine wp_s (i := .iload_n 1) (n := 1) (pc' := 29) (st' := [dz_I a1, .ref 114]) rfl rfl ?_
      refine wq_cv (Dq := (D + 4)) (r' := mm_r162) (as0 := [dz_I a1]) (rest := []) (ls' := [some (.ref 114), some (dz_I a1)]) (pc' := 32) rfl rfl rfl rfl ho_M rfl rfl rfl ?_
      refine jw_M_plays2 (X := X) (D := D + 0) a1 Z (dz_pm (dz_bi H) (fun q5 H => ?_))
      show mm_Wp X (D + 5) mm_r164 32 [some (.ref 114), some (dz_I a1), some (dz_I a2)] [] (hz_0 q5) Q
      refine wp_s (i := .aload_n 0) (n := 1) (pc' := 33) (st' := [.ref 114]) rfl rfl ?_
      refine wq_gr (idx := 58) (a := 131) (pc' := 36) rfl rfl ho_M rfl rfl ?_
      refine wp_s (i := .iload_n 2) (n := 1) (pc' := 37) (st' := [dz_I a2, .ref 131]) rfl rfl ?_
      obtain ⟨k6, H⟩ := dz_ck H
      refine wq_ia (j' := dz_c a2) (pc' := 38) rfl ha_M_35 rfl k6.1 k6.2 rfl ?_
      refine wq_ri rfl rfl ?_
      replace H := dz_sm H
      exact H
    · replace H := dz_if c4 H
      refine wp_s (i := .iconst (-1)) (n := 1) (pc' := 26) (st' := [dz_I (-1)]) rfl rfl ?_
      refine wq_ri rfl rfl ?_
      replace H := dz_sm H
      exact H
-- 165
def jf_M_falls (a1 : Int) (a2 : Int) (Z : dz_Z) : Option (Int × dz_Z) := Option.bind (jf_M_isShower a1 Z) fun q1 => if q1 = false then (some ((-1), Z)) else (if 0 ≤ dz_c a2 ∧ dz_c a2 ≤ 7 then (Option.bind (jf_M_plays2 a1 Z) fun q4 => dz_lp (fun (s5 : Int × Int × Int) => Option.bind (jf_M_lengthOf a1 q4) fun q6 => if dz_c q6 ≤ dz_c s5.2.2 then (dz_lp (fun (s8 : Int × Int) => if dz_c (q4 114 3 0) ≤ dz_c s8.2 then (if dz_c a2 = 0 then (some (Sum.inr (Sum.inr (q4 114 0 555, q4)))) else (if dz_c a2 = 1 then (some (Sum.inr (Sum.inr (q4 114 0 556, q4)))) else (if dz_c a2 = 2 then (Option.bind (jf_M_sumOf 420 86 q4) fun q13 => some (Sum.inr (Sum.inr (q13, q4)))) else (if dz_c a2 = 3 then (Option.bind (jf_M_sumOf 420 110 q4) fun q15 => some (Sum.inr (Sum.inr (q15, q4)))) else (if dz_c a2 = 4 then (some (Sum.inr (Sum.inr (q4 114 0 557, q4)))) else (if dz_c a2 = 5 then (some (Sum.inr (Sum.inr (s5.2.1, q4)))) else (if dz_c a2 = 6 then (some (Sum.inr (Sum.inr (s8.1, q4)))) else (some (Sum.inr (Sum.inr (dz_an ((dz_sl 1 (q4 114 3 0)) - 1) (dz_xo (q4 114 37 0) (-1)), q4))))))))))) else (if 0 ≤ dz_c (538 + s8.2) ∧ dz_c (538 + s8.2) < 700 then some (Sum.inl (dz_or s8.1 (dz_sl (q4 114 0 (dz_c (538 + s8.2))) s8.2), s8.2 + 1)) else none)) 5000 (0, 0)) else (if 0 ≤ dz_c s5.2.2 ∧ dz_c s5.2.2 < 12 then Option.bind (α := Int) (if dz_c (q4 114 36 (dz_c s5.2.2)) ≤ dz_c s5.1 then (some s5.2.1) else (some s5.2.2)) (fun (q22 : Int) => if dz_c (q4 114 36 (dz_c s5.2.2)) ≤ dz_c s5.1 then (some (Sum.inl (s5.1, q22, s5.2.2 + 1))) else (some (Sum.inl (q4 114 36 (dz_c s5.2.2), q22, s5.2.2 + 1)))) else none)) 5000 (0, (-4), 0)) else (some ((-1), Z)))
set_option maxRecDepth 20000 in
theorem jw_M_falls {X : Option (List Int32)} {D : Nat} {Q : Option Value → mm_H → Prop} (a1 : Int) (a2 : Int) (Z : dz_Z) (H : dz_p (jf_M_falls a1 a2 Z) (fun q => Q (some (dz_I q.1)) (hz_0 q.2))) : mm_Wp X (D + 5) mm_r165 0 [some (.ref 114), some (dz_I a1), some (dz_I a2), none, none, none, none] [] (hz_0 Z) Q := by
  unfold jf_M_falls at H
  refine wp_s (i := .aload_n 0) (n := 1) (pc' := 1) (st' := [.ref 114]) rfl rfl ?_
  refine wp_s (i := .iload_n 1) (n := 1) (pc' := 2) (st' := [dz_I a1, .ref 114]) rfl rfl ?_
  refine wq_cv (Dq := (D + 4)) (r' := mm_r140) (as0 := [dz_I a1]) (rest := []) (ls' := [some (.ref 114), some (dz_I a1)]) (pc' := 5) rfl rfl rfl rfl ho_M rfl rfl rfl ?_
  refine jw_M_isShower (X := X) (D := D + 3) a1 Z (dz_pm (dz_bi H) (fun q1 H => ?_))
  show mm_Wp X (D + 5) mm_r165 5 [some (.ref 114), some (dz_I a1), some (dz_I a2), none, none, none, none] [dz_B q1] (hz_0 Z) Q
  refine wq_if (p := q1 = false) (tt := 20) (pc' := 8) rfl rfl (cb_eq) rfl (fun c2 => ?_) (fun c2 => ?_)
  · replace H := dz_it c2 H
    refine wp_s (i := .iconst (-1)) (n := 1) (pc' := 21) (st' := [dz_I (-1)]) rfl rfl ?_
    refine wq_ri rfl rfl ?_
    replace H := dz_sm H
    exact H
  · replace H := dz_if c2 H
    refine wp_s (i := .iload_n 2) (n := 1) (pc' := 9) (st' := [dz_I a2]) rfl rfl ?_
    refine wq_3 (i := .i2l) (v' := dz_J (dz_c a2)) (pc' := 10) rfl rfl (oq_i2l' rfl) rfl ?_
    refine wp_s (i := .lconst 0) (n := 1) (pc' := 11) (st' := [dz_J 0, dz_J (dz_c a2)]) rfl rfl ?_
    refine wp_s (i := .ldc2_w 249) (n := 3) (pc' := 14) (st' := [dz_J 7, dz_J 0, dz_J (dz_c a2)]) rfl rfl ?_
    refine wq_cs (Dq := (D + 4)) (r' := mm_r120) (as0 := [dz_J (dz_c a2), dz_J 0, dz_J 7]) (rest := []) (ls' := [some (dz_J (dz_c a2)), none, some (dz_J 0), none, some (dz_J 7), none]) (pc' := 17) rfl rfl (by decide) rfl rfl rfl rfl rfl ?_
    refine jw_in (a' := dz_c a2) (b' := 0) (c' := 7) (dz_lc _) (by decide) (by decide) ?_
    show mm_Wp X (D + 5) mm_r165 17 [some (.ref 114), some (dz_I a1), some (dz_I a2), none, none, none, none] [dz_B (decide (0 ≤ dz_c a2 ∧ dz_c a2 ≤ 7))] (hz_0 Z) Q
    refine wq_if (p := 0 ≤ dz_c a2 ∧ dz_c a2 ≤ 7) (tt := 22) (pc' := 20) rfl rfl (cd_ne) rfl (fun c3 => ?_) (fun c3 => ?_)
    · replace H := dz_it c3 H
      refine wp_s (i := .aload_n 0) (n := 1) (pc' := 23) (st' := [.ref 114]) rfl rfl ?_
      refine wp_s (i := .iload_n 1) (n := 1) (pc' := 24) (st' := [dz_I a1, .ref 114]) rfl rfl ?_
      refine wq_cv (Dq := (D + 4)) (r' := mm_r162) (as0 := [dz_I a1]) (rest := []) (ls' := [some (.ref 114), some (dz_I a1)]) (pc' := 27) rfl rfl rfl rfl ho_M rfl rfl rfl ?_
      refine jw_M_plays2 (X := X) (D := D + 0) a1 Z (dz_pm (dz_bi H) (fun q4 H => ?_))
      show mm_Wp X (D + 5) mm_r165 27 [some (.ref 114), some (dz_I a1), some (dz_I a2), none, none, none, none] [] (hz_0 q4) Q
      refine wp_s (i := .iconst 0) (n := 1) (pc' := 28) (st' := [dz_I 0]) rfl rfl ?_
      refine wq_st (k := 3) (i := .istore_n 3) (n := 1) (ls' := [some (.ref 114), some (dz_I a1), some (dz_I a2), some (dz_I 0), none, none, none]) (pc' := 29) rfl rfl rfl rfl rfl ?_
      refine wp_s (i := .bipush (-4)) (n := 2) (pc' := 31) (st' := [dz_I (-4)]) rfl rfl ?_
      refine wq_st (k := 4) (i := .istore 4) (n := 2) (ls' := [some (.ref 114), some (dz_I a1), some (dz_I a2), some (dz_I 0), some (dz_I (-4)), none, none]) (pc' := 33) rfl rfl rfl rfl rfl ?_
      refine wp_s (i := .iconst 0) (n := 1) (pc' := 34) (st' := [dz_I 0]) rfl rfl ?_
      refine wq_st (k := 5) (i := .istore 5) (n := 2) (ls' := [some (.ref 114), some (dz_I a1), some (dz_I a2), some (dz_I 0), some (dz_I (-4)), some (dz_I 0), none]) (pc' := 36) rfl rfl rfl rfl rfl ?_
      refine dz_lpi (P := fun (s5 : Int × Int × Int) => mm_Wp X (D + 5) mm_r165 36 [some (.ref 114), some (dz_I a1), some (dz_I a2), some (dz_I s5.1), some (dz_I s5.2.1), some (dz_I s5.2.2), none] [] (hz_0 q4) Q) (fun s5 H => ?_) 5000 (0, (-4), 0) H
      refine wp_s (i := .iload 5) (n := 2) (pc' := 38) (st' := [dz_I s5.2.2]) rfl rfl ?_
      refine wp_s (i := .aload_n 0) (n := 1) (pc' := 39) (st' := [.ref 114, dz_I s5.2.2]) rfl rfl ?_
      refine wp_s (i := .iload_n 1) (n := 1) (pc' := 40) (st' := [dz_I a1, .ref 114, dz_I s5.2.2]) rfl rfl ?_
      refine wq_cv (Dq := (D + 4)) (r' := mm_r160) (as0 := [dz_I a1]) (rest := [dz_I s5.2.2]) (ls' := [some (.ref 114), some (dz_I a1)]) (pc' := 43) rfl rfl rfl rfl ho_M rfl rfl rfl ?_
      refine jw_M_lengthOf (X := X) (D := D + 4) a1 q4 (dz_pm (dz_bi H) (fun q6 H => ?_))
      show mm_Wp X (D + 5) mm_r165 43 [some (.ref 114), some (dz_I a1), some (dz_I a2), some (dz_I s5.1), some (dz_I s5.2.1), some (dz_I s5.2.2), none] [dz_I q6, dz_I s5.2.2] (hz_0 q4) Q
      refine wq_ic (p := dz_c q6 ≤ dz_c s5.2.2) (tt := 95) (pc' := 46) rfl rfl (cq_ge rfl rfl) rfl (fun c7 => ?_) (fun c7 => ?_)
      · replace H := dz_it c7 H
        refine wp_s (i := .iconst 0) (n := 1) (pc' := 96) (st' := [dz_I 0]) rfl rfl ?_
        refine wq_st (k := 5) (i := .istore 5) (n := 2) (ls' := [some (.ref 114), some (dz_I a1), some (dz_I a2), some (dz_I s5.1), some (dz_I s5.2.1), some (dz_I 0), none]) (pc' := 98) rfl rfl rfl rfl rfl ?_
        refine wp_s (i := .iconst 0) (n := 1) (pc' := 99) (st' := [dz_I 0]) rfl rfl ?_
        refine wq_st (k := 6) (i := .istore 6) (n := 2) (ls' := [some (.ref 114), some (dz_I a1), some (dz_I a2), some (dz_I s5.1), some (dz_I s5.2.1), some (dz_I 0), some (dz_I 0)]) (pc' := 101) rfl rfl rfl rfl rfl ?_
        refine dz_lpi (P := fun (s8 : Int × Int) => mm_Wp X (D + 5) mm_r165 101 [some (.ref 114), some (dz_I a1), some (dz_I a2), some (dz_I s5.1), some (dz_I s5.2.1), some (dz_I s8.1), some (dz_I s8.2)] [] (hz_0 q4) Q) (fun s8 H => ?_) 5000 (0, 0) H
        refine wp_s (i := .iload 6) (n := 2) (pc' := 103) (st' := [dz_I s8.2]) rfl rfl ?_
        refine wp_s (i := .aload_n 0) (n := 1) (pc' := 104) (st' := [.ref 114, dz_I s8.2]) rfl rfl ?_
        refine wq_gi (idx := 170) (pc' := 107) rfl rfl ho_M rfl rfl ?_
        refine wq_ic (p := dz_c (q4 114 3 0) ≤ dz_c s8.2) (tt := 135) (pc' := 110) rfl rfl (cq_ge rfl rfl) rfl (fun c9 => ?_) (fun c9 => ?_)
        · replace H := dz_it c9 H
          refine wp_s (i := .iload_n 2) (n := 1) (pc' := 136) (st' := [dz_I a2]) rfl rfl ?_
          by_cases c10 : dz_c a2 = 0
          · replace H := dz_it c10 H
            refine wq_ts (x' := dz_c a2) (tt := 180) rfl rfl (by rw [c10]; rfl) ?_
            refine wp_s (i := .aload_n 0) (n := 1) (pc' := 181) (st' := [.ref 114]) rfl rfl ?_
            refine wq_gr (idx := 7) (a := 115) (pc' := 184) rfl rfl ho_M rfl rfl ?_
            refine wp_s (i := .sipush 555) (n := 3) (pc' := 187) (st' := [dz_I 555, .ref 115]) rfl rfl ?_
            refine wq_ia (j' := 555) (pc' := 188) rfl ha_M_0 dk_555 (by decide) (by decide) rfl ?_
            refine wq_ri rfl rfl ?_
            replace H := dz_out H
            replace H := dz_out H
            replace H := dz_sm H
            exact H
          · replace H := dz_if c10 H
            by_cases c11 : dz_c a2 = 1
            · replace H := dz_it c11 H
              refine wq_ts (x' := dz_c a2) (tt := 189) rfl rfl (by rw [c11]; rfl) ?_
              refine wp_s (i := .aload_n 0) (n := 1) (pc' := 190) (st' := [.ref 114]) rfl rfl ?_
              refine wq_gr (idx := 7) (a := 115) (pc' := 193) rfl rfl ho_M rfl rfl ?_
              refine wp_s (i := .sipush 556) (n := 3) (pc' := 196) (st' := [dz_I 556, .ref 115]) rfl rfl ?_
              refine wq_ia (j' := 556) (pc' := 197) rfl ha_M_0 dk_556 (by decide) (by decide) rfl ?_
              refine wq_ri rfl rfl ?_
              replace H := dz_out H
              replace H := dz_out H
              replace H := dz_sm H
              exact H
            · replace H := dz_if c11 H
              by_cases c12 : dz_c a2 = 2
              · replace H := dz_it c12 H
                refine wq_ts (x' := dz_c a2) (tt := 198) rfl rfl (by rw [c12]; rfl) ?_
                refine wp_s (i := .aload_n 0) (n := 1) (pc' := 199) (st' := [.ref 114]) rfl rfl ?_
                refine wp_s (i := .sipush 420) (n := 3) (pc' := 202) (st' := [dz_I 420, .ref 114]) rfl rfl ?_
                refine wp_s (i := .bipush 86) (n := 2) (pc' := 204) (st' := [dz_I 86, dz_I 420, .ref 114]) rfl rfl ?_
                refine wq_cv (Dq := (D + 4)) (r' := mm_r155) (as0 := [dz_I 420, dz_I 86]) (rest := []) (ls' := [some (.ref 114), some (dz_I 420), some (dz_I 86), none, none]) (pc' := 207) rfl rfl rfl rfl ho_M rfl rfl rfl ?_
                refine jw_M_sumOf (X := X) (D := D + 4) 420 86 q4 (dz_pm (dz_bi H) (fun q13 H => ?_))
                show mm_Wp X (D + 5) mm_r165 207 [some (.ref 114), some (dz_I a1), some (dz_I a2), some (dz_I s5.1), some (dz_I s5.2.1), some (dz_I s8.1), some (dz_I s8.2)] [dz_I q13] (hz_0 q4) Q
                refine wq_ri rfl rfl ?_
                replace H := dz_out H
                replace H := dz_out H
                replace H := dz_sm H
                exact H
              · replace H := dz_if c12 H
                by_cases c14 : dz_c a2 = 3
                · replace H := dz_it c14 H
                  refine wq_ts (x' := dz_c a2) (tt := 208) rfl rfl (by rw [c14]; rfl) ?_
                  refine wp_s (i := .aload_n 0) (n := 1) (pc' := 209) (st' := [.ref 114]) rfl rfl ?_
                  refine wp_s (i := .sipush 420) (n := 3) (pc' := 212) (st' := [dz_I 420, .ref 114]) rfl rfl ?_
                  refine wp_s (i := .bipush 110) (n := 2) (pc' := 214) (st' := [dz_I 110, dz_I 420, .ref 114]) rfl rfl ?_
                  refine wq_cv (Dq := (D + 4)) (r' := mm_r155) (as0 := [dz_I 420, dz_I 110]) (rest := []) (ls' := [some (.ref 114), some (dz_I 420), some (dz_I 110), none, none]) (pc' := 217) rfl rfl rfl rfl ho_M rfl rfl rfl ?_
                  refine jw_M_sumOf (X := X) (D := D + 4) 420 110 q4 (dz_pm (dz_bi H) (fun q15 H => ?_))
                  show mm_Wp X (D + 5) mm_r165 217 [some (.ref 114), some (dz_I a1), some (dz_I a2), some (dz_I s5.1), some (dz_I s5.2.1), some (dz_I s8.1), some (dz_I s8.2)] [dz_I q15] (hz_0 q4) Q
                  refine wq_ri rfl rfl ?_
                  replace H := dz_out H
                  replace H := dz_out H
                  replace H := dz_sm H
                  exact H
                · replace H := dz_if c14 H
                  by_cases c16 : dz_c a2 = 4
                  · replace H := dz_it c16 H
                    refine wq_ts (x' := dz_c a2) (tt := 218) rfl rfl (by rw [c16]; rfl) ?_
                    refine wp_s (i := .aload_n 0) (n := 1) (pc' := 219) (st' := [.ref 114]) rfl rfl ?_
                    refine wq_gr (idx := 7) (a := 115) (pc' := 222) rfl rfl ho_M rfl rfl ?_
                    refine wp_s (i := .sipush 557) (n := 3) (pc' := 225) (st' := [dz_I 557, .ref 115]) rfl rfl ?_
                    refine wq_ia (j' := 557) (pc' := 226) rfl ha_M_0 dk_557 (by decide) (by decide) rfl ?_
                    refine wq_ri rfl rfl ?_
                    replace H := dz_out H
                    replace H := dz_out H
                    replace H := dz_sm H
                    exact H
                  · replace H := dz_if c16 H
                    by_cases c17 : dz_c a2 = 5
                    · replace H := dz_it c17 H
                      refine wq_ts (x' := dz_c a2) (tt := 227) rfl rfl (by rw [c17]; rfl) ?_
                      refine wp_s (i := .iload 4) (n := 2) (pc' := 229) (st' := [dz_I s5.2.1]) rfl rfl ?_
                      refine wq_ri rfl rfl ?_
                      replace H := dz_out H
                      replace H := dz_out H
                      replace H := dz_sm H
                      exact H
                    · replace H := dz_if c17 H
                      by_cases c18 : dz_c a2 = 6
                      · replace H := dz_it c18 H
                        refine wq_ts (x' := dz_c a2) (tt := 230) rfl rfl (by rw [c18]; rfl) ?_
                        refine wp_s (i := .iload 5) (n := 2) (pc' := 232) (st' := [dz_I s8.1]) rfl rfl ?_
                        refine wq_ri rfl rfl ?_
                        replace H := dz_out H
                        replace H := dz_out H
                        replace H := dz_sm H
                        exact H
                      · replace H := dz_if c18 H
                        refine wq_ts (x' := dz_c a2) (tt := 233) rfl rfl (by unfold mm_sw; rw [if_pos (by omega)]; rfl) ?_
                        refine wp_s (i := .iconst 1) (n := 1) (pc' := 234) (st' := [dz_I 1]) rfl rfl ?_
                        refine wp_s (i := .aload_n 0) (n := 1) (pc' := 235) (st' := [.ref 114, dz_I 1]) rfl rfl ?_
                        refine wq_gi (idx := 170) (pc' := 238) rfl rfl ho_M rfl rfl ?_
                        refine wq_2 (i := .ishl) (z := dz_sl 1 (q4 114 3 0)) (pc' := 239) rfl rfl (op_shl _ _) rfl ?_
                        refine wp_s (i := .iconst 1) (n := 1) (pc' := 240) (st' := [dz_I 1, dz_I (dz_sl 1 (q4 114 3 0))]) rfl rfl ?_
                        refine wq_2 (i := .isub) (z := (dz_sl 1 (q4 114 3 0)) - 1) (pc' := 241) rfl rfl (op_sub _ _) rfl ?_
                        refine wp_s (i := .aload_n 0) (n := 1) (pc' := 242) (st' := [.ref 114, dz_I ((dz_sl 1 (q4 114 3 0)) - 1)]) rfl rfl ?_
                        refine wq_gi (idx := 237) (pc' := 245) rfl rfl ho_M rfl rfl ?_
                        refine wp_s (i := .iconst (-1)) (n := 1) (pc' := 246) (st' := [dz_I (-1), dz_I (q4 114 37 0), dz_I ((dz_sl 1 (q4 114 3 0)) - 1)]) rfl rfl ?_
                        refine wq_2 (i := .ixor) (z := dz_xo (q4 114 37 0) (-1)) (pc' := 247) rfl rfl (op_xor _ _) rfl ?_
                        refine wq_2 (i := .iand) (z := dz_an ((dz_sl 1 (q4 114 3 0)) - 1) (dz_xo (q4 114 37 0) (-1))) (pc' := 248) rfl rfl (op_and _ _) rfl ?_
                        refine wq_ri rfl rfl ?_
                        replace H := dz_out H
                        replace H := dz_out H
                        replace H := dz_sm H
                        exact H
        · replace H := dz_if c9 H
          refine wp_s (i := .iload 5) (n := 2) (pc' := 112) (st' := [dz_I s8.1]) rfl rfl ?_
          refine wp_s (i := .aload_n 0) (n := 1) (pc' := 113) (st' := [.ref 114, dz_I s8.1]) rfl rfl ?_
          refine wq_gr (idx := 7) (a := 115) (pc' := 116) rfl rfl ho_M rfl rfl ?_
          refine wp_s (i := .sipush 538) (n := 3) (pc' := 119) (st' := [dz_I 538, .ref 115, dz_I s8.1]) rfl rfl ?_
          refine wp_s (i := .iload 6) (n := 2) (pc' := 121) (st' := [dz_I s8.2, dz_I 538, .ref 115, dz_I s8.1]) rfl rfl ?_
          refine wq_2 (i := .iadd) (z := 538 + s8.2) (pc' := 122) rfl rfl (op_add _ _) rfl ?_
          obtain ⟨k19, H⟩ := dz_ck H
          refine wq_ia (j' := dz_c (538 + s8.2)) (pc' := 123) rfl ha_M_0 rfl k19.1 k19.2 rfl ?_
          refine wp_s (i := .iload 6) (n := 2) (pc' := 125) (st' := [dz_I s8.2, dz_I (q4 114 0 (dz_c (538 + s8.2))), dz_I s8.1]) rfl rfl ?_
          refine wq_2 (i := .ishl) (z := dz_sl (q4 114 0 (dz_c (538 + s8.2))) s8.2) (pc' := 126) rfl rfl (op_shl _ _) rfl ?_
          refine wq_2 (i := .ior) (z := dz_or s8.1 (dz_sl (q4 114 0 (dz_c (538 + s8.2))) s8.2)) (pc' := 127) rfl rfl (op_or _ _) rfl ?_
          refine wq_st (k := 5) (i := .istore 5) (n := 2) (ls' := [some (.ref 114), some (dz_I a1), some (dz_I a2), some (dz_I s5.1), some (dz_I s5.2.1), some (dz_I (dz_or s8.1 (dz_sl (q4 114 0 (dz_c (538 + s8.2))) s8.2))), some (dz_I s8.2)]) (pc' := 129) rfl rfl rfl rfl rfl ?_
          refine wq_inc (k := 6) (d := 1) (x := s8.2) (ls' := [some (.ref 114), some (dz_I a1), some (dz_I a2), some (dz_I s5.1), some (dz_I s5.2.1), some (dz_I (dz_or s8.1 (dz_sl (q4 114 0 (dz_c (538 + s8.2))) s8.2))), some (dz_I (s8.2 + 1))]) (pc' := 132) rfl rfl rfl rfl ?_
          refine wp_s (i := .goto (-31)) (n := 3) (pc' := 101) (st' := []) rfl rfl ?_
          replace H := dz_back H
          exact H
      · replace H := dz_if c7 H
        refine wp_s (i := .aload_n 0) (n := 1) (pc' := 47) (st' := [.ref 114]) rfl rfl ?_
        refine wq_gr (idx := 61) (a := 132) (pc' := 50) rfl rfl ho_M rfl rfl ?_
        refine wp_s (i := .iload 5) (n := 2) (pc' := 52) (st' := [dz_I s5.2.2, .ref 132]) rfl rfl ?_
        obtain ⟨k20, H⟩ := dz_ck H
        refine wq_ia (j' := dz_c s5.2.2) (pc' := 53) rfl ha_M_36 rfl k20.1 k20.2 rfl ?_
        refine wp_s (i := .iload_n 3) (n := 1) (pc' := 54) (st' := [dz_I s5.1, dz_I (q4 114 36 (dz_c s5.2.2))]) rfl rfl ?_
        refine dz_jn (P := fun (q22 : Int) => mm_Wp X (D + 5) mm_r165 64 [some (.ref 114), some (dz_I a1), some (dz_I a2), some (dz_I s5.1), some (dz_I s5.2.1), some (dz_I s5.2.2), none] [dz_I q22] (hz_0 q4) Q) (dz_bi H) (fun q22 H => ?_) (fun H => ?_)
        · skip
          refine wq_st (k := 4) (i := .istore 4) (n := 2) (ls' := [some (.ref 114), some (dz_I a1), some (dz_I a2), some (dz_I s5.1), some (dz_I q22), some (dz_I s5.2.2), none]) (pc' := 66) rfl rfl rfl rfl rfl ?_
          refine wp_s (i := .aload_n 0) (n := 1) (pc' := 67) (st' := [.ref 114]) rfl rfl ?_
          refine wq_gr (idx := 61) (a := 132) (pc' := 70) rfl rfl ho_M rfl rfl ?_
          refine wp_s (i := .iload 5) (n := 2) (pc' := 72) (st' := [dz_I s5.2.2, .ref 132]) rfl rfl ?_
          refine wq_ia (j' := dz_c s5.2.2) (pc' := 73) rfl ha_M_36 rfl k20.1 k20.2 rfl ?_
          refine wp_s (i := .iload_n 3) (n := 1) (pc' := 74) (st' := [dz_I s5.1, dz_I (q4 114 36 (dz_c s5.2.2))]) rfl rfl ?_
          refine wq_ic (p := dz_c (q4 114 36 (dz_c s5.2.2)) ≤ dz_c s5.1) (tt := 87) (pc' := 77) rfl rfl (cq_le rfl rfl) rfl (fun c23 => ?_) (fun c23 => ?_)
          · replace H := dz_it c23 H
            refine wp_s (i := .iload_n 3) (n := 1) (pc' := 88) (st' := [dz_I s5.1]) rfl rfl ?_
            refine wq_st (k := 3) (i := .istore_n 3) (n := 1) (ls' := [some (.ref 114), some (dz_I a1), some (dz_I a2), some (dz_I s5.1), some (dz_I q22), some (dz_I s5.2.2), none]) (pc' := 89) rfl rfl rfl rfl rfl ?_
            refine wq_inc (k := 5) (d := 1) (x := s5.2.2) (ls' := [some (.ref 114), some (dz_I a1), some (dz_I a2), some (dz_I s5.1), some (dz_I q22), some (dz_I (s5.2.2 + 1)), none]) (pc' := 92) rfl rfl rfl rfl ?_
            refine wp_s (i := .goto (-56)) (n := 3) (pc' := 36) (st' := []) rfl rfl ?_
            replace H := dz_back H
            exact H
          · replace H := dz_if c23 H
            refine wp_s (i := .aload_n 0) (n := 1) (pc' := 78) (st' := [.ref 114]) rfl rfl ?_
            refine wq_gr (idx := 61) (a := 132) (pc' := 81) rfl rfl ho_M rfl rfl ?_
            refine wp_s (i := .iload 5) (n := 2) (pc' := 83) (st' := [dz_I s5.2.2, .ref 132]) rfl rfl ?_
            refine wq_ia (j' := dz_c s5.2.2) (pc' := 84) rfl ha_M_36 rfl k20.1 k20.2 rfl ?_
            refine wp_s (i := .goto 4) (n := 3) (pc' := 88) (st' := [dz_I (q4 114 36 (dz_c s5.2.2))]) rfl rfl ?_
            refine wq_st (k := 3) (i := .istore_n 3) (n := 1) (ls' := [some (.ref 114), some (dz_I a1), some (dz_I a2), some (dz_I (q4 114 36 (dz_c s5.2.2))), some (dz_I q22), some (dz_I s5.2.2), none]) (pc' := 89) rfl rfl rfl rfl rfl ?_
            refine wq_inc (k := 5) (d := 1) (x := s5.2.2) (ls' := [some (.ref 114), some (dz_I a1), some (dz_I a2), some (dz_I (q4 114 36 (dz_c s5.2.2))), some (dz_I q22), some (dz_I (s5.2.2 + 1)), none]) (pc' := 92) rfl rfl rfl rfl ?_
            refine wp_s (i := .goto (-56)) (n := 3) (pc' := 36) (st' := []) rfl rfl ?_
            replace H := dz_back H
            exact H
        · skip
          refine wq_ic (p := dz_c (q4 114 36 (dz_c s5.2.2)) ≤ dz_c s5.1) (tt := 62) (pc' := 57) rfl rfl (cq_le rfl rfl) rfl (fun c24 => ?_) (fun c24 => ?_)
          · replace H := dz_it c24 H
            refine wp_s (i := .iload 4) (n := 2) (pc' := 64) (st' := [dz_I s5.2.1]) rfl rfl ?_
            replace H := dz_sm H
            exact H
          · replace H := dz_if c24 H
            refine wp_s (i := .iload 5) (n := 2) (pc' := 59) (st' := [dz_I s5.2.2]) rfl rfl ?_
            refine wp_s (i := .goto 5) (n := 3) (pc' := 64) (st' := [dz_I s5.2.2]) rfl rfl ?_
            replace H := dz_sm H
            exact H
    · replace H := dz_if c3 H
      refine wp_s (i := .iconst (-1)) (n := 1) (pc' := 21) (st' := [dz_I (-1)]) rfl rfl ?_
      refine wq_ri rfl rfl ?_
      replace H := dz_sm H
      exact H
-- 166
def jf_M_tune (a1 : Int) (Z : dz_Z) : Option (Int) := if ¬(0 ≤ dz_c a1 ∧ dz_c a1 ≤ dz_c ((Z 114 0 73) - 1)) then (some (-1)) else (if 0 ≤ dz_c (74 + a1) ∧ dz_c (74 + a1) < 700 then some (Z 114 0 (dz_c (74 + a1))) else none)
set_option maxRecDepth 20000 in
theorem jw_M_tune {X : Option (List Int32)} {D : Nat} {Q : Option Value → mm_H → Prop} (a1 : Int) (Z : dz_Z) (H : dz_p (jf_M_tune a1 Z) (fun q => Q (some (dz_I q)) (hz_0 Z))) : mm_Wp X (D + 1) mm_r166 0 [some (.ref 114), some (dz_I a1)] [] (hz_0 Z) Q := by
  unfold jf_M_tune at H
  refine wp_s (i := .iload_n 1) (n := 1) (pc' := 1) (st' := [dz_I a1]) rfl rfl ?_
  refine wq_3 (i := .i2l) (v' := dz_J (dz_c a1)) (pc' := 2) rfl rfl (oq_i2l' rfl) rfl ?_
  refine wp_s (i := .lconst 0) (n := 1) (pc' := 3) (st' := [dz_J 0, dz_J (dz_c a1)]) rfl rfl ?_
  refine wp_s (i := .aload_n 0) (n := 1) (pc' := 4) (st' := [.ref 114, dz_J 0, dz_J (dz_c a1)]) rfl rfl ?_
  refine wq_gr (idx := 7) (a := 115) (pc' := 7) rfl rfl ho_M rfl rfl ?_
  refine wp_s (i := .bipush 73) (n := 2) (pc' := 9) (st' := [dz_I 73, .ref 115, dz_J 0, dz_J (dz_c a1)]) rfl rfl ?_
  refine wq_ia (j' := 73) (pc' := 10) rfl ha_M_0 dk_73 (by decide) (by decide) rfl ?_
  refine wp_s (i := .iconst 1) (n := 1) (pc' := 11) (st' := [dz_I 1, dz_I (Z 114 0 73), dz_J 0, dz_J (dz_c a1)]) rfl rfl ?_
  refine wq_2 (i := .isub) (z := (Z 114 0 73) - 1) (pc' := 12) rfl rfl (op_sub _ _) rfl ?_
  refine wq_3 (i := .i2l) (v' := dz_J (dz_c ((Z 114 0 73) - 1))) (pc' := 13) rfl rfl (oq_i2l' rfl) rfl ?_
  refine wq_cs (Dq := D) (r' := mm_r120) (as0 := [dz_J (dz_c a1), dz_J 0, dz_J (dz_c ((Z 114 0 73) - 1))]) (rest := []) (ls' := [some (dz_J (dz_c a1)), none, some (dz_J 0), none, some (dz_J (dz_c ((Z 114 0 73) - 1))), none]) (pc' := 16) rfl rfl (by decide) rfl rfl rfl rfl rfl ?_
  refine jw_in (a' := dz_c a1) (b' := 0) (c' := dz_c ((Z 114 0 73) - 1)) (dz_lc _) (by decide) (dz_lc _) ?_
  show mm_Wp X (D + 1) mm_r166 16 [some (.ref 114), some (dz_I a1)] [dz_B (decide (0 ≤ dz_c a1 ∧ dz_c a1 ≤ dz_c ((Z 114 0 73) - 1)))] (hz_0 Z) Q
  refine wq_if (p := ¬(0 ≤ dz_c a1 ∧ dz_c a1 ≤ dz_c ((Z 114 0 73) - 1))) (tt := 31) (pc' := 19) rfl rfl (cd_eq) rfl (fun c1 => ?_) (fun c1 => ?_)
  · replace H := dz_it c1 H
    refine wp_s (i := .iconst (-1)) (n := 1) (pc' := 32) (st' := [dz_I (-1)]) rfl rfl ?_
    refine wq_ri rfl rfl ?_
    replace H := dz_sm H
    exact H
  · replace H := dz_if c1 H
    refine wp_s (i := .aload_n 0) (n := 1) (pc' := 20) (st' := [.ref 114]) rfl rfl ?_
    refine wq_gr (idx := 7) (a := 115) (pc' := 23) rfl rfl ho_M rfl rfl ?_
    refine wp_s (i := .bipush 74) (n := 2) (pc' := 25) (st' := [dz_I 74, .ref 115]) rfl rfl ?_
    refine wp_s (i := .iload_n 1) (n := 1) (pc' := 26) (st' := [dz_I a1, dz_I 74, .ref 115]) rfl rfl ?_
    refine wq_2 (i := .iadd) (z := 74 + a1) (pc' := 27) rfl rfl (op_add _ _) rfl ?_
    obtain ⟨k2, H⟩ := dz_ck H
    refine wq_ia (j' := dz_c (74 + a1)) (pc' := 28) rfl ha_M_0 rfl k2.1 k2.2 rfl ?_
    refine wp_s (i := .goto 4) (n := 3) (pc' := 32) (st' := [dz_I (Z 114 0 (dz_c (74 + a1)))]) rfl rfl ?_
    refine wq_ri rfl rfl ?_
    replace H := dz_sm H
    exact H
