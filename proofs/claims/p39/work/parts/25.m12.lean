section mg_25m12
-- 155
def jf_M_sumOf (a1 : Int) (a2 : Int) (Z : dz_Z) : Option (Int) := dz_lp (fun (s1 : Int × Int) => if 8 ≤ dz_c s1.2 then (some (Sum.inr s1.1)) else (if 0 ≤ dz_c ((a1 + a2) + s1.2) ∧ dz_c ((a1 + a2) + s1.2) < 700 then some (Sum.inl (s1.1 + (Z 114 0 (dz_c ((a1 + a2) + s1.2))), s1.2 + 1)) else none)) 5000 (0, 0)
set_option maxRecDepth 20000 in
theorem jw_M_sumOf {X : Option (List Int32)} {D : Nat} {Q : Option Value → mm_H → Prop} (a1 : Int) (a2 : Int) (Z : dz_Z) (H : dz_p (jf_M_sumOf a1 a2 Z) (fun q => Q (some (dz_I q)) (hz_0 Z))) : mm_Wp X D mm_r155 0 [some (.ref 114), some (dz_I a1), some (dz_I a2), none, none] [] (hz_0 Z) Q := by
  unfold jf_M_sumOf at H
  refine wp_s (i := .iconst 0) (n := 1) (pc' := 1) (st' := [dz_I 0]) rfl rfl ?_
  refine wq_st (k := 3) (i := .istore_n 3) (n := 1) (ls' := [some (.ref 114), some (dz_I a1), some (dz_I a2), some (dz_I 0), none]) (pc' := 2) rfl rfl rfl rfl rfl ?_
  refine wp_s (i := .iconst 0) (n := 1) (pc' := 3) (st' := [dz_I 0]) rfl rfl ?_
  refine wq_st (k := 4) (i := .istore 4) (n := 2) (ls' := [some (.ref 114), some (dz_I a1), some (dz_I a2), some (dz_I 0), some (dz_I 0)]) (pc' := 5) rfl rfl rfl rfl rfl ?_
  refine dz_lpi (P := fun (s1 : Int × Int) => mm_Wp X D mm_r155 5 [some (.ref 114), some (dz_I a1), some (dz_I a2), some (dz_I s1.1), some (dz_I s1.2)] [] (hz_0 Z) Q) (fun s1 H => ?_) 5000 (0, 0) H
  refine wp_s (i := .iload 4) (n := 2) (pc' := 7) (st' := [dz_I s1.2]) rfl rfl ?_
  refine wp_s (i := .bipush 8) (n := 2) (pc' := 9) (st' := [dz_I 8, dz_I s1.2]) rfl rfl ?_
  refine wq_ic (p := 8 ≤ dz_c s1.2) (tt := 32) (pc' := 12) rfl rfl (cq_ge rfl dk_8) rfl (fun c2 => ?_) (fun c2 => ?_)
  · replace H := dz_it c2 H
    refine wp_s (i := .iload_n 3) (n := 1) (pc' := 33) (st' := [dz_I s1.1]) rfl rfl ?_
    refine wq_ri rfl rfl ?_
    replace H := dz_out H
    replace H := dz_sm H
    exact H
  · replace H := dz_if c2 H
    refine wp_s (i := .iload_n 3) (n := 1) (pc' := 13) (st' := [dz_I s1.1]) rfl rfl ?_
    refine wp_s (i := .aload_n 0) (n := 1) (pc' := 14) (st' := [.ref 114, dz_I s1.1]) rfl rfl ?_
    refine wq_gr (idx := 7) (a := 115) (pc' := 17) rfl rfl ho_M rfl rfl ?_
    refine wp_s (i := .iload_n 1) (n := 1) (pc' := 18) (st' := [dz_I a1, .ref 115, dz_I s1.1]) rfl rfl ?_
    refine wp_s (i := .iload_n 2) (n := 1) (pc' := 19) (st' := [dz_I a2, dz_I a1, .ref 115, dz_I s1.1]) rfl rfl ?_
    refine wq_2 (i := .iadd) (z := a1 + a2) (pc' := 20) rfl rfl (op_add _ _) rfl ?_
    refine wp_s (i := .iload 4) (n := 2) (pc' := 22) (st' := [dz_I s1.2, dz_I (a1 + a2), .ref 115, dz_I s1.1]) rfl rfl ?_
    refine wq_2 (i := .iadd) (z := (a1 + a2) + s1.2) (pc' := 23) rfl rfl (op_add _ _) rfl ?_
    obtain ⟨k3, H⟩ := dz_ck H
    refine wq_ia (j' := dz_c ((a1 + a2) + s1.2)) (pc' := 24) rfl ha_M_0 rfl k3.1 k3.2 rfl ?_
    refine wq_2 (i := .iadd) (z := s1.1 + (Z 114 0 (dz_c ((a1 + a2) + s1.2)))) (pc' := 25) rfl rfl (op_add _ _) rfl ?_
    refine wq_st (k := 3) (i := .istore_n 3) (n := 1) (ls' := [some (.ref 114), some (dz_I a1), some (dz_I a2), some (dz_I (s1.1 + (Z 114 0 (dz_c ((a1 + a2) + s1.2))))), some (dz_I s1.2)]) (pc' := 26) rfl rfl rfl rfl rfl ?_
    refine wq_inc (k := 4) (d := 1) (x := s1.2) (ls' := [some (.ref 114), some (dz_I a1), some (dz_I a2), some (dz_I (s1.1 + (Z 114 0 (dz_c ((a1 + a2) + s1.2))))), some (dz_I (s1.2 + 1))]) (pc' := 29) rfl rfl rfl rfl ?_
    refine wp_s (i := .goto (-24)) (n := 3) (pc' := 5) (st' := []) rfl rfl ?_
    replace H := dz_back H
    exact H
-- 156
def jf_M_rain (a1 : Int) (Z : dz_Z) : Option (Int × dz_Z) := if ¬(0 ≤ dz_c a1 ∧ dz_c a1 ≤ 9) then (some ((-1), Z)) else (Option.bind (jf_M_second 0 a1 Z) fun q2 => some (q2.1, q2.2))
set_option maxRecDepth 20000 in
theorem jw_M_rain {X : Option (List Int32)} {D : Nat} {Q : Option Value → mm_H → Prop} (a1 : Int) (Z : dz_Z) (H : dz_p (jf_M_rain a1 Z) (fun q => Q (some (dz_I q.1)) (hz_0 q.2))) : mm_Wp X (D + 3) mm_r156 0 [some (.ref 114), some (dz_I a1)] [] (hz_0 Z) Q := by
  unfold jf_M_rain at H
  refine wp_s (i := .iload_n 1) (n := 1) (pc' := 1) (st' := [dz_I a1]) rfl rfl ?_
  refine wq_3 (i := .i2l) (v' := dz_J (dz_c a1)) (pc' := 2) rfl rfl (oq_i2l' rfl) rfl ?_
  refine wp_s (i := .lconst 0) (n := 1) (pc' := 3) (st' := [dz_J 0, dz_J (dz_c a1)]) rfl rfl ?_
  refine wp_s (i := .ldc2_w 223) (n := 3) (pc' := 6) (st' := [dz_J 9, dz_J 0, dz_J (dz_c a1)]) rfl rfl ?_
  refine wq_cs (Dq := (D + 2)) (r' := mm_r120) (as0 := [dz_J (dz_c a1), dz_J 0, dz_J 9]) (rest := []) (ls' := [some (dz_J (dz_c a1)), none, some (dz_J 0), none, some (dz_J 9), none]) (pc' := 9) rfl rfl (by decide) rfl rfl rfl rfl rfl ?_
  refine jw_in (a' := dz_c a1) (b' := 0) (c' := 9) (dz_lc _) (by decide) (by decide) ?_
  show mm_Wp X (D + 3) mm_r156 9 [some (.ref 114), some (dz_I a1)] [dz_B (decide (0 ≤ dz_c a1 ∧ dz_c a1 ≤ 9))] (hz_0 Z) Q
  refine wq_if (p := ¬(0 ≤ dz_c a1 ∧ dz_c a1 ≤ 9)) (tt := 21) (pc' := 12) rfl rfl (cd_eq) rfl (fun c1 => ?_) (fun c1 => ?_)
  · replace H := dz_it c1 H
    refine wp_s (i := .iconst (-1)) (n := 1) (pc' := 22) (st' := [dz_I (-1)]) rfl rfl ?_
    refine wq_ri rfl rfl ?_
    replace H := dz_sm H
    exact H
  · replace H := dz_if c1 H
    refine wp_s (i := .aload_n 0) (n := 1) (pc' := 13) (st' := [.ref 114]) rfl rfl ?_
    refine wp_s (i := .iconst 0) (n := 1) (pc' := 14) (st' := [dz_I 0, .ref 114]) rfl rfl ?_
    refine wp_s (i := .iload_n 1) (n := 1) (pc' := 15) (st' := [dz_I a1, dz_I 0, .ref 114]) rfl rfl ?_
    refine wq_cv (Dq := (D + 2)) (r' := mm_r153) (as0 := [dz_I 0, dz_I a1]) (rest := []) (ls' := [some (.ref 114), some (dz_I 0), some (dz_I a1), none, none, none]) (pc' := 18) rfl rfl rfl rfl ho_M rfl rfl rfl ?_
    refine jw_M_second (X := X) (D := D + 0) 0 a1 Z (dz_pm (dz_bi H) (fun q2 H => ?_))
    show mm_Wp X (D + 3) mm_r156 18 [some (.ref 114), some (dz_I a1)] [dz_I q2.1] (hz_0 q2.2) Q
    refine wp_s (i := .goto 4) (n := 3) (pc' := 22) (st' := [dz_I q2.1]) rfl rfl ?_
    refine wq_ri rfl rfl ?_
    replace H := dz_sm H
    exact H
-- 157
def jf_M_dry (Z : dz_Z) : Option (Int × dz_Z) := Option.bind (jf_M_dries 0 Z) fun q1 => some (Z 114 0 134, q1)
set_option maxRecDepth 20000 in
theorem jw_M_dry {X : Option (List Int32)} {D : Nat} {Q : Option Value → mm_H → Prop} (Z : dz_Z) (H : dz_p (jf_M_dry Z) (fun q => Q (some (dz_I q.1)) (hz_0 q.2))) : mm_Wp X (D + 1) mm_r157 0 [some (.ref 114), none] [] (hz_0 Z) Q := by
  unfold jf_M_dry at H
  refine wp_s (i := .aload_n 0) (n := 1) (pc' := 1) (st' := [.ref 114]) rfl rfl ?_
  refine wq_gr (idx := 7) (a := 115) (pc' := 4) rfl rfl ho_M rfl rfl ?_
  refine wp_s (i := .sipush 134) (n := 3) (pc' := 7) (st' := [dz_I 134, .ref 115]) rfl rfl ?_
  refine wq_ia (j' := 134) (pc' := 8) rfl ha_M_0 dk_134 (by decide) (by decide) rfl ?_
  refine wq_st (k := 1) (i := .istore_n 1) (n := 1) (ls' := [some (.ref 114), some (dz_I (Z 114 0 134))]) (pc' := 9) rfl rfl rfl rfl rfl ?_
  refine wp_s (i := .aload_n 0) (n := 1) (pc' := 10) (st' := [.ref 114]) rfl rfl ?_
  refine wp_s (i := .iconst 0) (n := 1) (pc' := 11) (st' := [dz_I 0, .ref 114]) rfl rfl ?_
  refine wq_cv (Dq := D) (r' := mm_r154) (as0 := [dz_I 0]) (rest := []) (ls' := [some (.ref 114), some (dz_I 0), none]) (pc' := 14) rfl rfl rfl rfl ho_M rfl rfl rfl ?_
  refine jw_M_dries (X := X) (D := D + 0) 0 Z (dz_pm (dz_bi H) (fun q1 H => ?_))
  show mm_Wp X (D + 1) mm_r157 14 [some (.ref 114), some (dz_I (Z 114 0 134))] [] (hz_0 q1) Q
  refine wp_s (i := .iload_n 1) (n := 1) (pc' := 15) (st' := [dz_I (Z 114 0 134)]) rfl rfl ?_
  refine wq_ri rfl rfl ?_
  replace H := dz_sm H
  exact H
-- 158
def jf_M_water (a1 : Int) (Z : dz_Z) : Option (Int) := if dz_c a1 = 0 then (some (Z 114 0 134)) else (if dz_c a1 = 1 then (some (Z 114 0 135)) else (if dz_c a1 = 2 then (some (Z 114 0 136)) else (if dz_c a1 = 3 then (Option.bind (jf_M_sumOf 0 86 Z) fun q5 => some q5) else (if dz_c a1 = 4 then (Option.bind (jf_M_sumOf 0 110 Z) fun q7 => some q7) else (if dz_c a1 = 5 then (some (Z 114 0 137)) else (some (-1)))))))
set_option maxRecDepth 20000 in
theorem jw_M_water {X : Option (List Int32)} {D : Nat} {Q : Option Value → mm_H → Prop} (a1 : Int) (Z : dz_Z) (H : dz_p (jf_M_water a1 Z) (fun q => Q (some (dz_I q)) (hz_0 Z))) : mm_Wp X (D + 1) mm_r158 0 [some (.ref 114), some (dz_I a1)] [] (hz_0 Z) Q := by
  unfold jf_M_water at H
  refine wp_s (i := .iload_n 1) (n := 1) (pc' := 1) (st' := [dz_I a1]) rfl rfl ?_
  by_cases c1 : dz_c a1 = 0
  · replace H := dz_it c1 H
    refine wq_ts (x' := dz_c a1) (tt := 40) rfl rfl (by rw [c1]; rfl) ?_
    refine wp_s (i := .aload_n 0) (n := 1) (pc' := 41) (st' := [.ref 114]) rfl rfl ?_
    refine wq_gr (idx := 7) (a := 115) (pc' := 44) rfl rfl ho_M rfl rfl ?_
    refine wp_s (i := .sipush 134) (n := 3) (pc' := 47) (st' := [dz_I 134, .ref 115]) rfl rfl ?_
    refine wq_ia (j' := 134) (pc' := 48) rfl ha_M_0 dk_134 (by decide) (by decide) rfl ?_
    refine wq_ri rfl rfl ?_
    replace H := dz_sm H
    exact H
  · replace H := dz_if c1 H
    by_cases c2 : dz_c a1 = 1
    · replace H := dz_it c2 H
      refine wq_ts (x' := dz_c a1) (tt := 49) rfl rfl (by rw [c2]; rfl) ?_
      refine wp_s (i := .aload_n 0) (n := 1) (pc' := 50) (st' := [.ref 114]) rfl rfl ?_
      refine wq_gr (idx := 7) (a := 115) (pc' := 53) rfl rfl ho_M rfl rfl ?_
      refine wp_s (i := .sipush 135) (n := 3) (pc' := 56) (st' := [dz_I 135, .ref 115]) rfl rfl ?_
      refine wq_ia (j' := 135) (pc' := 57) rfl ha_M_0 dk_135 (by decide) (by decide) rfl ?_
      refine wq_ri rfl rfl ?_
      replace H := dz_sm H
      exact H
    · replace H := dz_if c2 H
      by_cases c3 : dz_c a1 = 2
      · replace H := dz_it c3 H
        refine wq_ts (x' := dz_c a1) (tt := 58) rfl rfl (by rw [c3]; rfl) ?_
        refine wp_s (i := .aload_n 0) (n := 1) (pc' := 59) (st' := [.ref 114]) rfl rfl ?_
        refine wq_gr (idx := 7) (a := 115) (pc' := 62) rfl rfl ho_M rfl rfl ?_
        refine wp_s (i := .sipush 136) (n := 3) (pc' := 65) (st' := [dz_I 136, .ref 115]) rfl rfl ?_
        refine wq_ia (j' := 136) (pc' := 66) rfl ha_M_0 dk_136 (by decide) (by decide) rfl ?_
        refine wq_ri rfl rfl ?_
        replace H := dz_sm H
        exact H
      · replace H := dz_if c3 H
        by_cases c4 : dz_c a1 = 3
        · replace H := dz_it c4 H
          refine wq_ts (x' := dz_c a1) (tt := 67) rfl rfl (by rw [c4]; rfl) ?_
          refine wp_s (i := .aload_n 0) (n := 1) (pc' := 68) (st' := [.ref 114]) rfl rfl ?_
          refine wp_s (i := .iconst 0) (n := 1) (pc' := 69) (st' := [dz_I 0, .ref 114]) rfl rfl ?_
          refine wp_s (i := .bipush 86) (n := 2) (pc' := 71) (st' := [dz_I 86, dz_I 0, .ref 114]) rfl rfl ?_
          refine wq_cv (Dq := D) (r' := mm_r155) (as0 := [dz_I 0, dz_I 86]) (rest := []) (ls' := [some (.ref 114), some (dz_I 0), some (dz_I 86), none, none]) (pc' := 74) rfl rfl rfl rfl ho_M rfl rfl rfl ?_
          refine jw_M_sumOf (X := X) (D := D + 0) 0 86 Z (dz_pm (dz_bi H) (fun q5 H => ?_))
          show mm_Wp X (D + 1) mm_r158 74 [some (.ref 114), some (dz_I a1)] [dz_I q5] (hz_0 Z) Q
          refine wq_ri rfl rfl ?_
          replace H := dz_sm H
          exact H
        · replace H := dz_if c4 H
          by_cases c6 : dz_c a1 = 4
          · replace H := dz_it c6 H
            refine wq_ts (x' := dz_c a1) (tt := 75) rfl rfl (by rw [c6]; rfl) ?_
            refine wp_s (i := .aload_n 0) (n := 1) (pc' := 76) (st' := [.ref 114]) rfl rfl ?_
            refine wp_s (i := .iconst 0) (n := 1) (pc' := 77) (st' := [dz_I 0, .ref 114]) rfl rfl ?_
            refine wp_s (i := .bipush 110) (n := 2) (pc' := 79) (st' := [dz_I 110, dz_I 0, .ref 114]) rfl rfl ?_
            refine wq_cv (Dq := D) (r' := mm_r155) (as0 := [dz_I 0, dz_I 110]) (rest := []) (ls' := [some (.ref 114), some (dz_I 0), some (dz_I 110), none, none]) (pc' := 82) rfl rfl rfl rfl ho_M rfl rfl rfl ?_
            refine jw_M_sumOf (X := X) (D := D + 0) 0 110 Z (dz_pm (dz_bi H) (fun q7 H => ?_))
            show mm_Wp X (D + 1) mm_r158 82 [some (.ref 114), some (dz_I a1)] [dz_I q7] (hz_0 Z) Q
            refine wq_ri rfl rfl ?_
            replace H := dz_sm H
            exact H
          · replace H := dz_if c6 H
            by_cases c8 : dz_c a1 = 5
            · replace H := dz_it c8 H
              refine wq_ts (x' := dz_c a1) (tt := 83) rfl rfl (by rw [c8]; rfl) ?_
              refine wp_s (i := .aload_n 0) (n := 1) (pc' := 84) (st' := [.ref 114]) rfl rfl ?_
              refine wq_gr (idx := 7) (a := 115) (pc' := 87) rfl rfl ho_M rfl rfl ?_
              refine wp_s (i := .sipush 137) (n := 3) (pc' := 90) (st' := [dz_I 137, .ref 115]) rfl rfl ?_
              refine wq_ia (j' := 137) (pc' := 91) rfl ha_M_0 dk_137 (by decide) (by decide) rfl ?_
              refine wq_ri rfl rfl ?_
              replace H := dz_sm H
              exact H
            · replace H := dz_if c8 H
              refine wq_ts (x' := dz_c a1) (tt := 92) rfl rfl (by unfold mm_sw; rw [if_pos (by omega)]; rfl) ?_
              refine wp_s (i := .iconst (-1)) (n := 1) (pc' := 93) (st' := [dz_I (-1)]) rfl rfl ?_
              refine wq_ri rfl rfl ?_
              replace H := dz_sm H
              exact H
-- 159
def jf_M_loud (a1 : Int) (Z : dz_Z) : Option (Int) := Option.bind (jf_M_isSpout a1 Z) fun q1 => if q1 = false then (some (-1)) else (if 0 ≤ dz_c (126 + a1) ∧ dz_c (126 + a1) < 700 then some (Z 114 0 (dz_c (126 + a1))) else none)
set_option maxRecDepth 20000 in
theorem jw_M_loud {X : Option (List Int32)} {D : Nat} {Q : Option Value → mm_H → Prop} (a1 : Int) (Z : dz_Z) (H : dz_p (jf_M_loud a1 Z) (fun q => Q (some (dz_I q)) (hz_0 Z))) : mm_Wp X (D + 2) mm_r159 0 [some (.ref 114), some (dz_I a1)] [] (hz_0 Z) Q := by
  unfold jf_M_loud at H
  refine wp_s (i := .aload_n 0) (n := 1) (pc' := 1) (st' := [.ref 114]) rfl rfl ?_
  refine wp_s (i := .iload_n 1) (n := 1) (pc' := 2) (st' := [dz_I a1, .ref 114]) rfl rfl ?_
  refine wq_cv (Dq := (D + 1)) (r' := mm_r139) (as0 := [dz_I a1]) (rest := []) (ls' := [some (.ref 114), some (dz_I a1)]) (pc' := 5) rfl rfl rfl rfl ho_M rfl rfl rfl ?_
  refine jw_M_isSpout (X := X) (D := D + 0) a1 Z (dz_pm (dz_bi H) (fun q1 H => ?_))
  show mm_Wp X (D + 2) mm_r159 5 [some (.ref 114), some (dz_I a1)] [dz_B q1] (hz_0 Z) Q
  refine wq_if (p := q1 = false) (tt := 20) (pc' := 8) rfl rfl (cb_eq) rfl (fun c2 => ?_) (fun c2 => ?_)
  · replace H := dz_it c2 H
    refine wp_s (i := .iconst (-1)) (n := 1) (pc' := 21) (st' := [dz_I (-1)]) rfl rfl ?_
    refine wq_ri rfl rfl ?_
    replace H := dz_sm H
    exact H
  · replace H := dz_if c2 H
    refine wp_s (i := .aload_n 0) (n := 1) (pc' := 9) (st' := [.ref 114]) rfl rfl ?_
    refine wq_gr (idx := 7) (a := 115) (pc' := 12) rfl rfl ho_M rfl rfl ?_
    refine wp_s (i := .bipush 126) (n := 2) (pc' := 14) (st' := [dz_I 126, .ref 115]) rfl rfl ?_
    refine wp_s (i := .iload_n 1) (n := 1) (pc' := 15) (st' := [dz_I a1, dz_I 126, .ref 115]) rfl rfl ?_
    refine wq_2 (i := .iadd) (z := 126 + a1) (pc' := 16) rfl rfl (op_add _ _) rfl ?_
    obtain ⟨k3, H⟩ := dz_ck H
    refine wq_ia (j' := dz_c (126 + a1)) (pc' := 17) rfl ha_M_0 rfl k3.1 k3.2 rfl ?_
    refine wp_s (i := .goto 4) (n := 3) (pc' := 21) (st' := [dz_I (Z 114 0 (dz_c (126 + a1)))]) rfl rfl ?_
    refine wq_ri rfl rfl ?_
    replace H := dz_sm H
    exact H
-- 160
def jf_M_lengthOf (a1 : Int) (Z : dz_Z) : Option (Int) := if 0 ≤ dz_c (34 + (13 * a1)) ∧ dz_c (34 + (13 * a1)) < 700 then some (Z 114 0 (dz_c (34 + (13 * a1)))) else none
set_option maxRecDepth 20000 in
theorem jw_M_lengthOf {X : Option (List Int32)} {D : Nat} {Q : Option Value → mm_H → Prop} (a1 : Int) (Z : dz_Z) (H : dz_p (jf_M_lengthOf a1 Z) (fun q => Q (some (dz_I q)) (hz_0 Z))) : mm_Wp X D mm_r160 0 [some (.ref 114), some (dz_I a1)] [] (hz_0 Z) Q := by
  unfold jf_M_lengthOf at H
  refine wp_s (i := .aload_n 0) (n := 1) (pc' := 1) (st' := [.ref 114]) rfl rfl ?_
  refine wq_gr (idx := 7) (a := 115) (pc' := 4) rfl rfl ho_M rfl rfl ?_
  refine wp_s (i := .bipush 34) (n := 2) (pc' := 6) (st' := [dz_I 34, .ref 115]) rfl rfl ?_
  refine wp_s (i := .bipush 13) (n := 2) (pc' := 8) (st' := [dz_I 13, dz_I 34, .ref 115]) rfl rfl ?_
  refine wp_s (i := .iload_n 1) (n := 1) (pc' := 9) (st' := [dz_I a1, dz_I 13, dz_I 34, .ref 115]) rfl rfl ?_
  refine wq_2 (i := .imul) (z := 13 * a1) (pc' := 10) rfl rfl (op_mul _ _) rfl ?_
  refine wq_2 (i := .iadd) (z := 34 + (13 * a1)) (pc' := 11) rfl rfl (op_add _ _) rfl ?_
  obtain ⟨k1, H⟩ := dz_ck H
  refine wq_ia (j' := dz_c (34 + (13 * a1))) (pc' := 12) rfl ha_M_0 rfl k1.1 k1.2 rfl ?_
  refine wq_ri rfl rfl ?_
  replace H := dz_sm H
  exact H
-- 161
def jf_M_showers (a1 : Int) (Z : dz_Z) : Option (dz_Z) := dz_lp (fun (s1 : Int × dz_Z) => Option.bind (jf_M_lengthOf a1 s1.2) fun q3 => if dz_c q3 ≤ dz_c s1.1 then (some (Sum.inr s1.2)) else (if 0 ≤ dz_c (((34 + (13 * a1)) + 1) + s1.1) ∧ dz_c (((34 + (13 * a1)) + 1) + s1.1) < 700 then Option.bind (jf_M_second 420 (s1.2 114 0 (dz_c (((34 + (13 * a1)) + 1) + s1.1))) s1.2) fun q6 => if 0 ≤ dz_c s1.1 ∧ dz_c s1.1 < 12 then dz_a (dz_u q6.2 114 35 (dz_c s1.1) q6.1) fun Z8 => Option.bind (jf_M_sumOf 420 126 Z8) fun q9 => dz_a (dz_u Z8 114 36 (dz_c s1.1) q9) fun Z10 => dz_lp (fun (s11 : Int × dz_Z) => if dz_c (s11.2 114 3 0) ≤ dz_c s11.1 then (some (Sum.inr (Sum.inl (s1.1 + 1, s11.2)))) else (if 0 ≤ dz_c (546 + s11.1) ∧ dz_c (546 + s11.1) < 700 then Option.bind (α := Int) (if dz_c (s11.2 114 0 (dz_c (546 + s11.1))) ≤ 0 then (some 0) else (some (dz_sl 1 s11.1))) (fun (q15 : Int) => dz_a (dz_u s11.2 114 37 0 (dz_or (s11.2 114 37 0) q15)) fun Z16 => some (Sum.inl (s11.1 + 1, Z16))) else none)) 5000 (0, Z10) else none else none)) 5000 (0, Z)
set_option maxRecDepth 20000 in
theorem jw_M_showers {X : Option (List Int32)} {D : Nat} {Q : Option Value → mm_H → Prop} (a1 : Int) (Z : dz_Z) (H : dz_p (jf_M_showers a1 Z) (fun q => Q (none) (hz_0 q))) : mm_Wp X (D + 3) mm_r161 0 [some (.ref 114), some (dz_I a1), none, none] [] (hz_0 Z) Q := by
  unfold jf_M_showers at H
  refine wp_s (i := .iconst 0) (n := 1) (pc' := 1) (st' := [dz_I 0]) rfl rfl ?_
  refine wq_st (k := 2) (i := .istore_n 2) (n := 1) (ls' := [some (.ref 114), some (dz_I a1), some (dz_I 0), none]) (pc' := 2) rfl rfl rfl rfl rfl ?_
  refine dz_lpi (P := fun (s1 : Int × dz_Z) => ∀ (u2 : Option Int32), mm_Wp X (D + 3) mm_r161 2 [some (.ref 114), some (dz_I a1), some (dz_I s1.1), Option.map Value.int u2] [] (hz_0 s1.2) Q) (fun s1 H => ?_) 5000 (0, Z) H none
  intro u2
  refine wp_s (i := .iload_n 2) (n := 1) (pc' := 3) (st' := [dz_I s1.1]) rfl rfl ?_
  refine wp_s (i := .aload_n 0) (n := 1) (pc' := 4) (st' := [.ref 114, dz_I s1.1]) rfl rfl ?_
  refine wp_s (i := .iload_n 1) (n := 1) (pc' := 5) (st' := [dz_I a1, .ref 114, dz_I s1.1]) rfl rfl ?_
  refine wq_cv (Dq := (D + 2)) (r' := mm_r160) (as0 := [dz_I a1]) (rest := [dz_I s1.1]) (ls' := [some (.ref 114), some (dz_I a1)]) (pc' := 8) rfl rfl rfl rfl ho_M rfl rfl rfl ?_
  refine jw_M_lengthOf (X := X) (D := D + 2) a1 s1.2 (dz_pm (dz_bi H) (fun q3 H => ?_))
  show mm_Wp X (D + 3) mm_r161 8 [some (.ref 114), some (dz_I a1), some (dz_I s1.1), Option.map Value.int u2] [dz_I q3, dz_I s1.1] (hz_0 s1.2) Q
  refine wq_ic (p := dz_c q3 ≤ dz_c s1.1) (tt := 106) (pc' := 11) rfl rfl (cq_ge rfl rfl) rfl (fun c4 => ?_) (fun c4 => ?_)
  · replace H := dz_it c4 H
    refine wq_rv rfl rfl ?_
    replace H := dz_out H
    replace H := dz_sm H
    exact H
  · replace H := dz_if c4 H
    refine wp_s (i := .aload_n 0) (n := 1) (pc' := 12) (st' := [.ref 114]) rfl rfl ?_
    refine wq_gr (idx := 58) (a := 131) (pc' := 15) rfl rfl ho_M rfl rfl ?_
    refine wp_s (i := .iload_n 2) (n := 1) (pc' := 16) (st' := [dz_I s1.1, .ref 131]) rfl rfl ?_
    refine wp_s (i := .aload_n 0) (n := 1) (pc' := 17) (st' := [.ref 114, dz_I s1.1, .ref 131]) rfl rfl ?_
    refine wp_s (i := .sipush 420) (n := 3) (pc' := 20) (st' := [dz_I 420, .ref 114, dz_I s1.1, .ref 131]) rfl rfl ?_
    refine wp_s (i := .aload_n 0) (n := 1) (pc' := 21) (st' := [.ref 114, dz_I 420, .ref 114, dz_I s1.1, .ref 131]) rfl rfl ?_
    refine wq_gr (idx := 7) (a := 115) (pc' := 24) rfl rfl ho_M rfl rfl ?_
    refine wp_s (i := .bipush 34) (n := 2) (pc' := 26) (st' := [dz_I 34, .ref 115, dz_I 420, .ref 114, dz_I s1.1, .ref 131]) rfl rfl ?_
    refine wp_s (i := .bipush 13) (n := 2) (pc' := 28) (st' := [dz_I 13, dz_I 34, .ref 115, dz_I 420, .ref 114, dz_I s1.1, .ref 131]) rfl rfl ?_
    refine wp_s (i := .iload_n 1) (n := 1) (pc' := 29) (st' := [dz_I a1, dz_I 13, dz_I 34, .ref 115, dz_I 420, .ref 114, dz_I s1.1, .ref 131]) rfl rfl ?_
    refine wq_2 (i := .imul) (z := 13 * a1) (pc' := 30) rfl rfl (op_mul _ _) rfl ?_
    refine wq_2 (i := .iadd) (z := 34 + (13 * a1)) (pc' := 31) rfl rfl (op_add _ _) rfl ?_
    refine wp_s (i := .iconst 1) (n := 1) (pc' := 32) (st' := [dz_I 1, dz_I (34 + (13 * a1)), .ref 115, dz_I 420, .ref 114, dz_I s1.1, .ref 131]) rfl rfl ?_
    refine wq_2 (i := .iadd) (z := (34 + (13 * a1)) + 1) (pc' := 33) rfl rfl (op_add _ _) rfl ?_
    refine wp_s (i := .iload_n 2) (n := 1) (pc' := 34) (st' := [dz_I s1.1, dz_I ((34 + (13 * a1)) + 1), .ref 115, dz_I 420, .ref 114, dz_I s1.1, .ref 131]) rfl rfl ?_
    refine wq_2 (i := .iadd) (z := ((34 + (13 * a1)) + 1) + s1.1) (pc' := 35) rfl rfl (op_add _ _) rfl ?_
    obtain ⟨k5, H⟩ := dz_ck H
    refine wq_ia (j' := dz_c (((34 + (13 * a1)) + 1) + s1.1)) (pc' := 36) rfl ha_M_0 rfl k5.1 k5.2 rfl ?_
    refine wq_cv (Dq := (D + 2)) (r' := mm_r153) (as0 := [dz_I 420, dz_I (s1.2 114 0 (dz_c (((34 + (13 * a1)) + 1) + s1.1)))]) (rest := [dz_I s1.1, .ref 131]) (ls' := [some (.ref 114), some (dz_I 420), some (dz_I (s1.2 114 0 (dz_c (((34 + (13 * a1)) + 1) + s1.1)))), none, none, none]) (pc' := 39) rfl rfl rfl rfl ho_M rfl rfl rfl ?_
    refine jw_M_second (X := X) (D := D + 0) 420 (s1.2 114 0 (dz_c (((34 + (13 * a1)) + 1) + s1.1))) s1.2 (dz_pm (dz_bi H) (fun q6 H => ?_))
    show mm_Wp X (D + 3) mm_r161 39 [some (.ref 114), some (dz_I a1), some (dz_I s1.1), Option.map Value.int u2] [dz_I q6.1, dz_I s1.1, .ref 131] (hz_0 q6.2) Q
    obtain ⟨k7, H⟩ := dz_ck H
    refine wq_is (j' := dz_c s1.1) (x := q6.1) (pc' := 40) rfl ha_M_35 rfl k7.1 k7.2 rfl (fun Z8 eZ8 => ?_)
    replace H := dz_le H Z8 eZ8
    clear eZ8
    refine wp_s (i := .aload_n 0) (n := 1) (pc' := 41) (st' := [.ref 114]) rfl rfl ?_
    refine wq_gr (idx := 61) (a := 132) (pc' := 44) rfl rfl ho_M rfl rfl ?_
    refine wp_s (i := .iload_n 2) (n := 1) (pc' := 45) (st' := [dz_I s1.1, .ref 132]) rfl rfl ?_
    refine wp_s (i := .aload_n 0) (n := 1) (pc' := 46) (st' := [.ref 114, dz_I s1.1, .ref 132]) rfl rfl ?_
    refine wp_s (i := .sipush 420) (n := 3) (pc' := 49) (st' := [dz_I 420, .ref 114, dz_I s1.1, .ref 132]) rfl rfl ?_
    refine wp_s (i := .bipush 126) (n := 2) (pc' := 51) (st' := [dz_I 126, dz_I 420, .ref 114, dz_I s1.1, .ref 132]) rfl rfl ?_
    refine wq_cv (Dq := (D + 2)) (r' := mm_r155) (as0 := [dz_I 420, dz_I 126]) (rest := [dz_I s1.1, .ref 132]) (ls' := [some (.ref 114), some (dz_I 420), some (dz_I 126), none, none]) (pc' := 54) rfl rfl rfl rfl ho_M rfl rfl rfl ?_
    refine jw_M_sumOf (X := X) (D := D + 2) 420 126 Z8 (dz_pm (dz_bi H) (fun q9 H => ?_))
    show mm_Wp X (D + 3) mm_r161 54 [some (.ref 114), some (dz_I a1), some (dz_I s1.1), Option.map Value.int u2] [dz_I q9, dz_I s1.1, .ref 132] (hz_0 Z8) Q
    refine wq_is (j' := dz_c s1.1) (x := q9) (pc' := 55) rfl ha_M_36 rfl k7.1 k7.2 rfl (fun Z10 eZ10 => ?_)
    replace H := dz_le H Z10 eZ10
    clear eZ10
    refine wp_s (i := .iconst 0) (n := 1) (pc' := 56) (st' := [dz_I 0]) rfl rfl ?_
    refine wq_st (k := 3) (i := .istore_n 3) (n := 1) (ls' := [some (.ref 114), some (dz_I a1), some (dz_I s1.1), some (dz_I 0)]) (pc' := 57) rfl rfl rfl rfl rfl ?_
    refine dz_lpi (P := fun (s11 : Int × dz_Z) => mm_Wp X (D + 3) mm_r161 57 [some (.ref 114), some (dz_I a1), some (dz_I s1.1), some (dz_I s11.1)] [] (hz_0 s11.2) Q) (fun s11 H => ?_) 5000 (0, Z10) H
    refine wp_s (i := .iload_n 3) (n := 1) (pc' := 58) (st' := [dz_I s11.1]) rfl rfl ?_
    refine wp_s (i := .aload_n 0) (n := 1) (pc' := 59) (st' := [.ref 114, dz_I s11.1]) rfl rfl ?_
    refine wq_gi (idx := 170) (pc' := 62) rfl rfl ho_M rfl rfl ?_
    refine wq_ic (p := dz_c (s11.2 114 3 0) ≤ dz_c s11.1) (tt := 100) (pc' := 65) rfl rfl (cq_ge rfl rfl) rfl (fun c12 => ?_) (fun c12 => ?_)
    · replace H := dz_it c12 H
      refine wq_inc (k := 2) (d := 1) (x := s1.1) (ls' := [some (.ref 114), some (dz_I a1), some (dz_I (s1.1 + 1)), some (dz_I s11.1)]) (pc' := 103) rfl rfl rfl rfl ?_
      refine wp_s (i := .goto (-101)) (n := 3) (pc' := 2) (st' := []) rfl rfl ?_
      replace H := dz_out H
      replace H := dz_back H
      exact H (some (Int32.ofInt s11.1))
    · replace H := dz_if c12 H
      refine wp_s (i := .aload_n 0) (n := 1) (pc' := 66) (st' := [.ref 114]) rfl rfl ?_
      refine wp_s (i := .dup) (n := 1) (pc' := 67) (st' := [.ref 114, .ref 114]) rfl rfl ?_
      refine wq_gi (idx := 237) (pc' := 70) rfl rfl ho_M rfl rfl ?_
      refine wp_s (i := .aload_n 0) (n := 1) (pc' := 71) (st' := [.ref 114, dz_I (s11.2 114 37 0), .ref 114]) rfl rfl ?_
      refine wq_gr (idx := 7) (a := 115) (pc' := 74) rfl rfl ho_M rfl rfl ?_
      refine wp_s (i := .sipush 546) (n := 3) (pc' := 77) (st' := [dz_I 546, .ref 115, dz_I (s11.2 114 37 0), .ref 114]) rfl rfl ?_
      refine wp_s (i := .iload_n 3) (n := 1) (pc' := 78) (st' := [dz_I s11.1, dz_I 546, .ref 115, dz_I (s11.2 114 37 0), .ref 114]) rfl rfl ?_
      refine wq_2 (i := .iadd) (z := 546 + s11.1) (pc' := 79) rfl rfl (op_add _ _) rfl ?_
      obtain ⟨k13, H⟩ := dz_ck H
      refine wq_ia (j' := dz_c (546 + s11.1)) (pc' := 80) rfl ha_M_0 rfl k13.1 k13.2 rfl ?_
      refine dz_jn (P := fun (q15 : Int) => mm_Wp X (D + 3) mm_r161 90 [some (.ref 114), some (dz_I a1), some (dz_I s1.1), some (dz_I s11.1)] [dz_I q15, dz_I (s11.2 114 37 0), .ref 114] (hz_0 s11.2) Q) (dz_bi H) (fun q15 H => ?_) (fun H => ?_)
      · skip
        refine wq_2 (i := .ior) (z := dz_or (s11.2 114 37 0) q15) (pc' := 91) rfl rfl (op_or _ _) rfl ?_
        refine wq_pi (idx := 237) (x := dz_or (s11.2 114 37 0) q15) (pc' := 94) rfl rfl rfl ho_M rfl rfl rfl rfl (fun Z16 eZ16 => ?_)
        replace H := dz_le H Z16 eZ16
        clear eZ16
        refine wq_inc (k := 3) (d := 1) (x := s11.1) (ls' := [some (.ref 114), some (dz_I a1), some (dz_I s1.1), some (dz_I (s11.1 + 1))]) (pc' := 97) rfl rfl rfl rfl ?_
        refine wp_s (i := .goto (-40)) (n := 3) (pc' := 57) (st' := []) rfl rfl ?_
        replace H := dz_back H
        exact H
      · skip
        refine wq_if (p := dz_c (s11.2 114 0 (dz_c (546 + s11.1))) ≤ 0) (tt := 89) (pc' := 83) rfl rfl (cz_le rfl) rfl (fun c17 => ?_) (fun c17 => ?_)
        · replace H := dz_it c17 H
          refine wp_s (i := .iconst 0) (n := 1) (pc' := 90) (st' := [dz_I 0, dz_I (s11.2 114 37 0), .ref 114]) rfl rfl ?_
          replace H := dz_sm H
          exact H
        · replace H := dz_if c17 H
          refine wp_s (i := .iconst 1) (n := 1) (pc' := 84) (st' := [dz_I 1, dz_I (s11.2 114 37 0), .ref 114]) rfl rfl ?_
          refine wp_s (i := .iload_n 3) (n := 1) (pc' := 85) (st' := [dz_I s11.1, dz_I 1, dz_I (s11.2 114 37 0), .ref 114]) rfl rfl ?_
          refine wq_2 (i := .ishl) (z := dz_sl 1 s11.1) (pc' := 86) rfl rfl (op_shl _ _) rfl ?_
          refine wp_s (i := .goto 4) (n := 3) (pc' := 90) (st' := [dz_I (dz_sl 1 s11.1), dz_I (s11.2 114 37 0), .ref 114]) rfl rfl ?_
          replace H := dz_sm H
          exact H
-- 162
def jf_M_plays2 (a1 : Int) (Z : dz_Z) : Option (dz_Z) := Option.bind (jf_M_dries 420 Z) fun q1 => dz_a (dz_u q1 114 37 0 0) fun Z2 => Option.bind (jf_M_showers a1 Z2) fun q3 => some q3
set_option maxRecDepth 20000 in
theorem jw_M_plays2 {X : Option (List Int32)} {D : Nat} {Q : Option Value → mm_H → Prop} (a1 : Int) (Z : dz_Z) (H : dz_p (jf_M_plays2 a1 Z) (fun q => Q (none) (hz_0 q))) : mm_Wp X (D + 4) mm_r162 0 [some (.ref 114), some (dz_I a1)] [] (hz_0 Z) Q := by
  unfold jf_M_plays2 at H
  refine wp_s (i := .aload_n 0) (n := 1) (pc' := 1) (st' := [.ref 114]) rfl rfl ?_
  refine wp_s (i := .sipush 420) (n := 3) (pc' := 4) (st' := [dz_I 420, .ref 114]) rfl rfl ?_
  refine wq_cv (Dq := (D + 3)) (r' := mm_r154) (as0 := [dz_I 420]) (rest := []) (ls' := [some (.ref 114), some (dz_I 420), none]) (pc' := 7) rfl rfl rfl rfl ho_M rfl rfl rfl ?_
  refine jw_M_dries (X := X) (D := D + 3) 420 Z (dz_pm (dz_bi H) (fun q1 H => ?_))
  show mm_Wp X (D + 4) mm_r162 7 [some (.ref 114), some (dz_I a1)] [] (hz_0 q1) Q
  refine wp_s (i := .aload_n 0) (n := 1) (pc' := 8) (st' := [.ref 114]) rfl rfl ?_
  refine wp_s (i := .iconst 0) (n := 1) (pc' := 9) (st' := [dz_I 0, .ref 114]) rfl rfl ?_
  refine wq_pi (idx := 237) (x := 0) (pc' := 12) rfl rfl rfl ho_M rfl rfl rfl rfl (fun Z2 eZ2 => ?_)
  replace H := dz_le H Z2 eZ2
  clear eZ2
  refine wp_s (i := .aload_n 0) (n := 1) (pc' := 13) (st' := [.ref 114]) rfl rfl ?_
  refine wp_s (i := .iload_n 1) (n := 1) (pc' := 14) (st' := [dz_I a1, .ref 114]) rfl rfl ?_
  refine wq_cv (Dq := (D + 3)) (r' := mm_r161) (as0 := [dz_I a1]) (rest := []) (ls' := [some (.ref 114), some (dz_I a1), none, none]) (pc' := 17) rfl rfl rfl rfl ho_M rfl rfl rfl ?_
  refine jw_M_showers (X := X) (D := D + 0) a1 Z2 (dz_pm (dz_bi H) (fun q3 H => ?_))
  show mm_Wp X (D + 4) mm_r162 17 [some (.ref 114), some (dz_I a1)] [] (hz_0 q3) Q
  refine wq_rv rfl rfl ?_
  replace H := dz_sm H
  exact H
-- 163
def jf_M_shower (a1 : Int) (a2 : Int) (Z : dz_Z) : Option (Int) := Option.bind (jf_M_isShower a1 Z) fun q1 => if q1 = true then (if dz_c a2 ≠ (-1) then (Option.bind (jf_M_lengthOf a1 Z) fun q4 => if ¬(0 ≤ dz_c a2 ∧ dz_c a2 ≤ dz_c (q4 - 1)) then (some (-1)) else (if 0 ≤ dz_c (((34 + (13 * a1)) + 1) + a2) ∧ dz_c (((34 + (13 * a1)) + 1) + a2) < 700 then some (Z 114 0 (dz_c (((34 + (13 * a1)) + 1) + a2))) else none)) else (Option.bind (jf_M_lengthOf a1 Z) fun q7 => some q7)) else (some (-1))
set_option maxRecDepth 20000 in
theorem jw_M_shower {X : Option (List Int32)} {D : Nat} {Q : Option Value → mm_H → Prop} (a1 : Int) (a2 : Int) (Z : dz_Z) (H : dz_p (jf_M_shower a1 a2 Z) (fun q => Q (some (dz_I q)) (hz_0 Z))) : mm_Wp X (D + 2) mm_r163 0 [some (.ref 114), some (dz_I a1), some (dz_I a2)] [] (hz_0 Z) Q := by
  unfold jf_M_shower at H
  refine wp_s (i := .aload_n 0) (n := 1) (pc' := 1) (st' := [.ref 114]) rfl rfl ?_
  refine wp_s (i := .iload_n 1) (n := 1) (pc' := 2) (st' := [dz_I a1, .ref 114]) rfl rfl ?_
  refine wq_cv (Dq := (D + 1)) (r' := mm_r140) (as0 := [dz_I a1]) (rest := []) (ls' := [some (.ref 114), some (dz_I a1)]) (pc' := 5) rfl rfl rfl rfl ho_M rfl rfl rfl ?_
  refine jw_M_isShower (X := X) (D := D + 0) a1 Z (dz_pm (dz_bi H) (fun q1 H => ?_))
  show mm_Wp X (D + 2) mm_r163 5 [some (.ref 114), some (dz_I a1), some (dz_I a2)] [dz_B q1] (hz_0 Z) Q
  refine wq_if (p := q1 = true) (tt := 10) (pc' := 8) rfl rfl (cb_ne) rfl (fun c2 => ?_) (fun c2 => ?_)
  · replace H := dz_it c2 H
    refine wp_s (i := .iload_n 2) (n := 1) (pc' := 11) (st' := [dz_I a2]) rfl rfl ?_
    refine wp_s (i := .iconst (-1)) (n := 1) (pc' := 12) (st' := [dz_I (-1), dz_I a2]) rfl rfl ?_
    refine wq_ic (p := dz_c a2 ≠ (-1)) (tt := 23) (pc' := 15) rfl rfl (cq_ne rfl dk_m1) rfl (fun c3 => ?_) (fun c3 => ?_)
    · replace H := dz_it c3 H
      refine wp_s (i := .iload_n 2) (n := 1) (pc' := 24) (st' := [dz_I a2]) rfl rfl ?_
      refine wq_3 (i := .i2l) (v' := dz_J (dz_c a2)) (pc' := 25) rfl rfl (oq_i2l' rfl) rfl ?_
      refine wp_s (i := .lconst 0) (n := 1) (pc' := 26) (st' := [dz_J 0, dz_J (dz_c a2)]) rfl rfl ?_
      refine wp_s (i := .aload_n 0) (n := 1) (pc' := 27) (st' := [.ref 114, dz_J 0, dz_J (dz_c a2)]) rfl rfl ?_
      refine wp_s (i := .iload_n 1) (n := 1) (pc' := 28) (st' := [dz_I a1, .ref 114, dz_J 0, dz_J (dz_c a2)]) rfl rfl ?_
      refine wq_cv (Dq := (D + 1)) (r' := mm_r160) (as0 := [dz_I a1]) (rest := [dz_J 0, dz_J (dz_c a2)]) (ls' := [some (.ref 114), some (dz_I a1)]) (pc' := 31) rfl rfl rfl rfl ho_M rfl rfl rfl ?_
      refine jw_M_lengthOf (X := X) (D := D + 1) a1 Z (dz_pm (dz_bi H) (fun q4 H => ?_))
      show mm_Wp X (D + 2) mm_r163 31 [some (.ref 114), some (dz_I a1), some (dz_I a2)] [dz_I q4, dz_J 0, dz_J (dz_c a2)] (hz_0 Z) Q
      refine wp_s (i := .iconst 1) (n := 1) (pc' := 32) (st' := [dz_I 1, dz_I q4, dz_J 0, dz_J (dz_c a2)]) rfl rfl ?_
      refine wq_2 (i := .isub) (z := q4 - 1) (pc' := 33) rfl rfl (op_sub _ _) rfl ?_
      refine wq_3 (i := .i2l) (v' := dz_J (dz_c (q4 - 1))) (pc' := 34) rfl rfl (oq_i2l' rfl) rfl ?_
      refine wq_cs (Dq := (D + 1)) (r' := mm_r120) (as0 := [dz_J (dz_c a2), dz_J 0, dz_J (dz_c (q4 - 1))]) (rest := []) (ls' := [some (dz_J (dz_c a2)), none, some (dz_J 0), none, some (dz_J (dz_c (q4 - 1))), none]) (pc' := 37) rfl rfl (by decide) rfl rfl rfl rfl rfl ?_
      refine jw_in (a' := dz_c a2) (b' := 0) (c' := dz_c (q4 - 1)) (dz_lc _) (by decide) (dz_lc _) ?_
      show mm_Wp X (D + 2) mm_r163 37 [some (.ref 114), some (dz_I a1), some (dz_I a2)] [dz_B (decide (0 ≤ dz_c a2 ∧ dz_c a2 ≤ dz_c (q4 - 1)))] (hz_0 Z) Q
      refine wq_if (p := ¬(0 ≤ dz_c a2 ∧ dz_c a2 ≤ dz_c (q4 - 1))) (tt := 59) (pc' := 40) rfl rfl (cd_eq) rfl (fun c5 => ?_) (fun c5 => ?_)
      · replace H := dz_it c5 H
        refine wp_s (i := .iconst (-1)) (n := 1) (pc' := 60) (st' := [dz_I (-1)]) rfl rfl ?_
        refine wq_ri rfl rfl ?_
        replace H := dz_sm H
        exact H
      · replace H := dz_if c5 H
        refine wp_s (i := .aload_n 0) (n := 1) (pc' := 41) (st' := [.ref 114]) rfl rfl ?_
        refine wq_gr (idx := 7) (a := 115) (pc' := 44) rfl rfl ho_M rfl rfl ?_
        refine wp_s (i := .bipush 34) (n := 2) (pc' := 46) (st' := [dz_I 34, .ref 115]) rfl rfl ?_
        refine wp_s (i := .bipush 13) (n := 2) (pc' := 48) (st' := [dz_I 13, dz_I 34, .ref 115]) rfl rfl ?_
        refine wp_s (i := .iload_n 1) (n := 1) (pc' := 49) (st' := [dz_I a1, dz_I 13, dz_I 34, .ref 115]) rfl rfl ?_
        refine wq_2 (i := .imul) (z := 13 * a1) (pc' := 50) rfl rfl (op_mul _ _) rfl ?_
        refine wq_2 (i := .iadd) (z := 34 + (13 * a1)) (pc' := 51) rfl rfl (op_add _ _) rfl ?_
        refine wp_s (i := .iconst 1) (n := 1) (pc' := 52) (st' := [dz_I 1, dz_I (34 + (13 * a1)), .ref 115]) rfl rfl ?_
        refine wq_2 (i := .iadd) (z := (34 + (13 * a1)) + 1) (pc' := 53) rfl rfl (op_add _ _) rfl ?_
        refine wp_s (i := .iload_n 2) (n := 1) (pc' := 54) (st' := [dz_I a2, dz_I ((34 + (13 * a1)) + 1), .ref 115]) rfl rfl ?_
        refine wq_2 (i := .iadd) (z := ((34 + (13 * a1)) + 1) + a2) (pc' := 55) rfl rfl (op_add _ _) rfl ?_
        obtain ⟨k6, H⟩ := dz_ck H
        refine wq_ia (j' := dz_c (((34 + (13 * a1)) + 1) + a2)) (pc' := 56) rfl ha_M_0 rfl k6.1 k6.2 rfl ?_
        refine wp_s (i := .goto 4) (n := 3) (pc' := 60) (st' := [dz_I (Z 114 0 (dz_c (((34 + (13 * a1)) + 1) + a2)))]) rfl rfl ?_
        refine wq_ri rfl rfl ?_
        replace H := dz_sm H
        exact H
    · replace H := dz_if c3 H
      refine wp_s (i := .aload_n 0) (n := 1) (pc' := 16) (st' := [.ref 114]) rfl rfl ?_
      refine wp_s (i := .iload_n 1) (n := 1) (pc' := 17) (st' := [dz_I a1, .ref 114]) rfl rfl ?_
      refine wq_cv (Dq := (D + 1)) (r' := mm_r160) (as0 := [dz_I a1]) (rest := []) (ls' := [some (.ref 114), some (dz_I a1)]) (pc' := 20) rfl rfl rfl rfl ho_M rfl rfl rfl ?_
      refine jw_M_lengthOf (X := X) (D := D + 1) a1 Z (dz_pm (dz_bi H) (fun q7 H => ?_))
      show mm_Wp X (D + 2) mm_r163 20 [some (.ref 114), some (dz_I a1), some (dz_I a2)] [dz_I q7] (hz_0 Z) Q
      refine wp_s (i := .goto 40) (n := 3) (pc' := 60) (st' := [dz_I q7]) rfl rfl ?_
      refine wq_ri rfl rfl ?_
      replace H := dz_sm H
      exact H
  · replace H := dz_if c2 H
    refine wp_s (i := .iconst (-1)) (n := 1) (pc' := 9) (st' := [dz_I (-1)]) rfl rfl ?_
    refine wq_ri rfl rfl ?_
    replace H := dz_sm H
    exact H
-- 164
def jf_M_plays (a1 : Int) (a2 : Int) (Z : dz_Z) : Option (Int × dz_Z) := Option.bind (jf_M_isShower a1 Z) fun q1 => if q1 = false then (some ((-1), Z)) else (Option.bind (jf_M_lengthOf a1 Z) fun q3 => if 0 ≤ dz_c a2 ∧ dz_c a2 ≤ dz_c (q3 - 1) then (Option.bind (jf_M_plays2 a1 Z) fun q5 => if 0 ≤ dz_c a2 ∧ dz_c a2 < 12 then some (q5 114 35 (dz_c a2), q5) else none) else (some ((-1), Z)))
set_option maxRecDepth 20000 in
theorem jw_M_plays {X : Option (List Int32)} {D : Nat} {Q : Option Value → mm_H → Prop} (a1 : Int) (a2 : Int) (Z : dz_Z) (H : dz_p (jf_M_plays a1 a2 Z) (fun q => Q (some (dz_I q.1)) (hz_0 q.2))) : mm_Wp X (D + 5) mm_r164 0 [some (.ref 114), some (dz_I a1), some (dz_I a2)] [] (hz_0 Z) Q := by
  unfold jf_M_plays at H
  refine wp_s (i := .aload_n 0) (n := 1) (pc' := 1) (st' := [.ref 114]) rfl rfl ?_
  refine wp_s (i := .iload_n 1) (n := 1) (pc' := 2) (st' := [dz_I a1, .ref 114]) rfl rfl ?_
  refine wq_cv (Dq := (D + 4)) (r' := mm_r140) (as0 := [dz_I a1]) (rest := []) (ls' := [some (.ref 114), some (dz_I a1)]) (pc' := 5) rfl rfl rfl rfl ho_M rfl rfl rfl ?_
  refine jw_M_isShower (X := X) (D := D + 3) a1 Z (dz_pm (dz_bi H) (fun q1 H => ?_))
  show mm_Wp X (D + 5) mm_r164 5 [some (.ref 114), some (dz_I a1), some (dz_I a2)] [dz_B q1] (hz_0 Z) Q
  refine wq_if (p := q1 = false) (tt := 25) (pc' := 8) rfl rfl (cb_eq) rfl (fun c2 => ?_) (fun c2 => ?_)
  · replace H := dz_it c2 H
    refine wp_s (i := .iconst (-1)) (n := 1) (pc' := 26) (st' := [dz_I (-1)]) rfl rfl ?_
    refine wq_ri rfl rfl ?_
    replace H := dz_sm H
    exact H
  · replace H := dz_if c2 H
    refine wp_s (i := .iload_n 2) (n := 1) (pc' := 9) (st' := [dz_I a2]) rfl rfl ?_
    refine wq_3 (i := .i2l) (v' := dz_J (dz_c a2)) (pc' := 10) rfl rfl (oq_i2l' rfl) rfl ?_
    refine wp_s (i := .lconst 0) (n := 1) (pc' := 11) (st' := [dz_J 0, dz_J (dz_c a2)]) rfl rfl ?_
    refine wp_s (i := .aload_n 0) (n := 1) (pc' := 12) (st' := [.ref 114, dz_J 0, dz_J (dz_c a2)]) rfl rfl ?_
    refine wp_s (i := .iload_n 1) (n := 1) (pc' := 13) (st' := [dz_I a1, .ref 114, dz_J 0, dz_J (dz_c a2)]) rfl rfl ?_
    refine wq_cv (Dq := (D + 4)) (r' := mm_r160) (as0 := [dz_I a1]) (rest := [dz_J 0, dz_J (dz_c a2)]) (ls' := [some (.ref 114), some (dz_I a1)]) (pc' := 16) rfl rfl rfl rfl ho_M rfl rfl rfl ?_
    refine jw_M_lengthOf (X := X) (D := D + 4) a1 Z (dz_pm (dz_bi H) (fun q3 H => ?_))
    show mm_Wp X (D + 5) mm_r164 16 [some (.ref 114), some (dz_I a1), some (dz_I a2)] [dz_I q3, dz_J 0, dz_J (dz_c a2)] (hz_0 Z) Q
    refine wp_s (i := .iconst 1) (n := 1) (pc' := 17) (st' := [dz_I 1, dz_I q3, dz_J 0, dz_J (dz_c a2)]) rfl rfl ?_
    refine wq_2 (i := .isub) (z := q3 - 1) (pc' := 18) rfl rfl (op_sub _ _) rfl ?_
    refine wq_3 (i := .i2l) (v' := dz_J (dz_c (q3 - 1))) (pc' := 19) rfl rfl (oq_i2l' rfl) rfl ?_
    refine wq_cs (Dq := (D + 4)) (r' := mm_r120) (as0 := [dz_J (dz_c a2), dz_J 0, dz_J (dz_c (q3 - 1))]) (rest := []) (ls' := [some (dz_J (dz_c a2)), none, some (dz_J 0), none, some (dz_J (dz_c (q3 - 1))), none]) (pc' := 22) rfl rfl (by decide) rfl rfl rfl rfl rfl ?_
    refine jw_in (a' := dz_c a2) (b' := 0) (c' := dz_c (q3 - 1)) (dz_lc _) (by decide) (dz_lc _) ?_
    show mm_Wp X (D + 5) mm_r164 22 [some (.ref 114), some (dz_I a1), some (dz_I a2)] [dz_B (decide (0 ≤ dz_c a2 ∧ dz_c a2 ≤ dz_c (q3 - 1)))] (hz_0 Z) Q
    refine wq_if (p := 0 ≤ dz_c a2 ∧ dz_c a2 ≤ dz_c (q3 - 1)) (tt := 27) (pc' := 25) rfl rfl (cd_ne) rfl (fun c4 => ?_) (fun c4 => ?_)
    · replace H := dz_it c4 H
      refine wp_s (i := .aload_n 0) (n := 1) (pc' := 28) (st' := [.ref 114]) rfl rfl ?_
      refine wp_s (i := .iload_n 1) (n := 1) (pc' := 29) (st' := [dz_I a1, .ref 114]) rfl rfl ?_
      refine wq_cv (Dq := (D + 4)) (r' := mm_r162) (as0 := [dz_I a1]) (rest := []) (ls' := [some (.ref 114), some (dz_I a1)]) (pc' := 32) rfl rfl rfl rfl ho_M rfl rfl rfl ?_
      refine jw_M_plays2 (X := X) (D := D + 0) a1 Z (dz_pm (dz_bi H) (fun q5 H => ?_))
      show mm_Wp X (D + 5) mm_r164 32 [some (.ref 114), some (dz_I a1), some (dz_I a2)] [] (hz_0 q5) Q
      refine wp_s (i := .aload_n 0) (n := 1) (pc' := 33) (st' := [.ref 114]) rfl rfl ?_
      refine wq_gr (idx := 58) (a := 131) (pc' := 36) rfl rfl ho_M rfl rfl ?_
      refine wp_s (i := .iload_n 2) (n := 1) (pc' := 37) (st' := [dz_I a2, .ref 131]) rfl rfl ?_
      obtain ⟨k6, H⟩ := dz_ck H
      refine wq_ia (j' := dz_c a2) (pc' := 38) rfl ha_M_35 rfl k6.1 k6.2 rfl ?_
      refine wq_ri rfl rfl ?_
      replace H := dz_sm H
      exact H
    · replace H := dz_if c4 H
      refine wp_s (i := .iconst (-1)) (n := 1) (pc' := 26) (st' := [dz_I (-1)]) rfl rfl ?_
      refine wq_ri rfl rfl ?_
      replace H := dz_sm H
      exact H
-- 165
def jf_M_falls (a1 : Int) (a2 : Int) (Z : dz_Z) : Option (Int × dz_Z) := Option.bind (jf_M_isShower a1 Z) fun q1 => if q1 = false then (some ((-1), Z)) else (if 0 ≤ dz_c a2 ∧ dz_c a2 ≤ 7 then (Option.bind (jf_M_plays2 a1 Z) fun q4 => dz_lp (fun (s5 : Int × Int × Int) => Option.bind (jf_M_lengthOf a1 q4) fun q6 => if dz_c q6 ≤ dz_c s5.2.2 then (dz_lp (fun (s8 : Int × Int) => if dz_c (q4 114 3 0) ≤ dz_c s8.2 then (if dz_c a2 = 0 then (some (Sum.inr (Sum.inr (q4 114 0 555, q4)))) else (if dz_c a2 = 1 then (some (Sum.inr (Sum.inr (q4 114 0 556, q4)))) else (if dz_c a2 = 2 then (Option.bind (jf_M_sumOf 420 86 q4) fun q13 => some (Sum.inr (Sum.inr (q13, q4)))) else (if dz_c a2 = 3 then (Option.bind (jf_M_sumOf 420 110 q4) fun q15 => some (Sum.inr (Sum.inr (q15, q4)))) else (if dz_c a2 = 4 then (some (Sum.inr (Sum.inr (q4 114 0 557, q4)))) else (if dz_c a2 = 5 then (some (Sum.inr (Sum.inr (s5.2.1, q4)))) else (if dz_c a2 = 6 then (some (Sum.inr (Sum.inr (s8.1, q4)))) else (some (Sum.inr (Sum.inr (dz_an ((dz_sl 1 (q4 114 3 0)) - 1) (dz_xo (q4 114 37 0) (-1)), q4))))))))))) else (if 0 ≤ dz_c (538 + s8.2) ∧ dz_c (538 + s8.2) < 700 then some (Sum.inl (dz_or s8.1 (dz_sl (q4 114 0 (dz_c (538 + s8.2))) s8.2), s8.2 + 1)) else none)) 5000 (0, 0)) else (if 0 ≤ dz_c s5.2.2 ∧ dz_c s5.2.2 < 12 then Option.bind (α := Int) (if dz_c (q4 114 36 (dz_c s5.2.2)) ≤ dz_c s5.1 then (some s5.2.1) else (some s5.2.2)) (fun (q22 : Int) => if dz_c (q4 114 36 (dz_c s5.2.2)) ≤ dz_c s5.1 then (some (Sum.inl (s5.1, q22, s5.2.2 + 1))) else (some (Sum.inl (q4 114 36 (dz_c s5.2.2), q22, s5.2.2 + 1)))) else none)) 5000 (0, (-4), 0)) else (some ((-1), Z)))
set_option maxRecDepth 20000 in
theorem jw_M_falls {X : Option (List Int32)} {D : Nat} {Q : Option Value → mm_H → Prop} (a1 : Int) (a2 : Int) (Z : dz_Z) (H : dz_p (jf_M_falls a1 a2 Z) (fun q => Q (some (dz_I q.1)) (hz_0 q.2))) : mm_Wp X (D + 5) mm_r165 0 [some (.ref 114), some (dz_I a1), some (dz_I a2), none, none, none, none] [] (hz_0 Z) Q := by
  unfold jf_M_falls at H
  refine wp_s (i := .aload_n 0) (n := 1) (pc' := 1) (st' := [.ref 114]) rfl rfl ?_
  refine wp_s (i := .iload_n 1) (n := 1) (pc' := 2) (st' := [dz_I a1, .ref 114]) rfl rfl ?_
  refine wq_cv (Dq := (D + 4)) (r' := mm_r140) (as0 := [dz_I a1]) (rest := []) (ls' := [some (.ref 114), some (dz_I a1)]) (pc' := 5) rfl rfl rfl rfl ho_M rfl rfl rfl ?_
  refine jw_M_isShower (X := X) (D := D + 3) a1 Z (dz_pm (dz_bi H) (fun q1 H => ?_))
  show mm_Wp X (D + 5) mm_r165 5 [some (.ref 114), some (dz_I a1), some (dz_I a2), none, none, none, none] [dz_B q1] (hz_0 Z) Q
  refine wq_if (p := q1 = false) (tt := 20) (pc' := 8) rfl rfl (cb_eq) rfl (fun c2 => ?_) (fun c2 => ?_)
  · replace H := dz_it c2 H
    refine wp_s (i := .iconst (-1)) (n := 1) (pc' := 21) (st' := [dz_I (-1)]) rfl rfl ?_
    refine wq_ri rfl rfl ?_
    replace H := dz_sm H
    exact H
  · replace H := dz_if c2 H
    refine wp_s (i := .iload_n 2) (n := 1) (pc' := 9) (st' := [dz_I a2]) rfl rfl ?_
    refine wq_3 (i := .i2l) (v' := dz_J (dz_c a2)) (pc' := 10) rfl rfl (oq_i2l' rfl) rfl ?_
    refine wp_s (i := .lconst 0) (n := 1) (pc' := 11) (st' := [dz_J 0, dz_J (dz_c a2)]) rfl rfl ?_
    refine wp_s (i := .ldc2_w 249) (n := 3) (pc' := 14) (st' := [dz_J 7, dz_J 0, dz_J (dz_c a2)]) rfl rfl ?_
    refine wq_cs (Dq := (D + 4)) (r' := mm_r120) (as0 := [dz_J (dz_c a2), dz_J 0, dz_J 7]) (rest := []) (ls' := [some (dz_J (dz_c a2)), none, some (dz_J 0), none, some (dz_J 7), none]) (pc' := 17) rfl rfl (by decide) rfl rfl rfl rfl rfl ?_
    refine jw_in (a' := dz_c a2) (b' := 0) (c' := 7) (dz_lc _) (by decide) (by decide) ?_
    show mm_Wp X (D + 5) mm_r165 17 [some (.ref 114), some (dz_I a1), some (dz_I a2), none, none, none, none] [dz_B (decide (0 ≤ dz_c a2 ∧ dz_c a2 ≤ 7))] (hz_0 Z) Q
    refine wq_if (p := 0 ≤ dz_c a2 ∧ dz_c a2 ≤ 7) (tt := 22) (pc' := 20) rfl rfl (cd_ne) rfl (fun c3 => ?_) (fun c3 => ?_)
    · replace H := dz_it c3 H
      refine wp_s (i := .aload_n 0) (n := 1) (pc' := 23) (st' := [.ref 114]) rfl rfl ?_
      refine wp_s (i := .iload_n 1) (n := 1) (pc' := 24) (st' := [dz_I a1, .ref 114]) rfl rfl ?_
      refine wq_cv (Dq := (D + 4)) (r' := mm_r162) (as0 := [dz_I a1]) (rest := []) (ls' := [some (.ref 114), some (dz_I a1)]) (pc' := 27) rfl rfl rfl rfl ho_M rfl rfl rfl ?_
      refine jw_M_plays2 (X := X) (D := D + 0) a1 Z (dz_pm (dz_bi H) (fun q4 H => ?_))
      show mm_Wp X (D + 5) mm_r165 27 [some (.ref 114), some (dz_I a1), some (dz_I a2), none, none, none, none] [] (hz_0 q4) Q
      refine wp_s (i := .iconst 0) (n := 1) (pc' := 28) (st' := [dz_I 0]) rfl rfl ?_
      refine wq_st (k := 3) (i := .istore_n 3) (n := 1) (ls' := [some (.ref 114), some (dz_I a1), some (dz_I a2), some (dz_I 0), none, none, none]) (pc' := 29) rfl rfl rfl rfl rfl ?_
      refine wp_s (i := .bipush (-4)) (n := 2) (pc' := 31) (st' := [dz_I (-4)]) rfl rfl ?_
      refine wq_st (k := 4) (i := .istore 4) (n := 2) (ls' := [some (.ref 114), some (dz_I a1), some (dz_I a2), some (dz_I 0), some (dz_I (-4)), none, none]) (pc' := 33) rfl rfl rfl rfl rfl ?_
      refine wp_s (i := .iconst 0) (n := 1) (pc' := 34) (st' := [dz_I 0]) rfl rfl ?_
      refine wq_st (k := 5) (i := .istore 5) (n := 2) (ls' := [some (.ref 114), some (dz_I a1), some (dz_I a2), some (dz_I 0), some (dz_I (-4)), some (dz_I 0), none]) (pc' := 36) rfl rfl rfl rfl rfl ?_
      refine dz_lpi (P := fun (s5 : Int × Int × Int) => mm_Wp X (D + 5) mm_r165 36 [some (.ref 114), some (dz_I a1), some (dz_I a2), some (dz_I s5.1), some (dz_I s5.2.1), some (dz_I s5.2.2), none] [] (hz_0 q4) Q) (fun s5 H => ?_) 5000 (0, (-4), 0) H
      refine wp_s (i := .iload 5) (n := 2) (pc' := 38) (st' := [dz_I s5.2.2]) rfl rfl ?_
      refine wp_s (i := .aload_n 0) (n := 1) (pc' := 39) (st' := [.ref 114, dz_I s5.2.2]) rfl rfl ?_
      refine wp_s (i := .iload_n 1) (n := 1) (pc' := 40) (st' := [dz_I a1, .ref 114, dz_I s5.2.2]) rfl rfl ?_
      refine wq_cv (Dq := (D + 4)) (r' := mm_r160) (as0 := [dz_I a1]) (rest := [dz_I s5.2.2]) (ls' := [some (.ref 114), some (dz_I a1)]) (pc' := 43) rfl rfl rfl rfl ho_M rfl rfl rfl ?_
      refine jw_M_lengthOf (X := X) (D := D + 4) a1 q4 (dz_pm (dz_bi H) (fun q6 H => ?_))
      show mm_Wp X (D + 5) mm_r165 43 [some (.ref 114), some (dz_I a1), some (dz_I a2), some (dz_I s5.1), some (dz_I s5.2.1), some (dz_I s5.2.2), none] [dz_I q6, dz_I s5.2.2] (hz_0 q4) Q
      refine wq_ic (p := dz_c q6 ≤ dz_c s5.2.2) (tt := 95) (pc' := 46) rfl rfl (cq_ge rfl rfl) rfl (fun c7 => ?_) (fun c7 => ?_)
      · replace H := dz_it c7 H
        refine wp_s (i := .iconst 0) (n := 1) (pc' := 96) (st' := [dz_I 0]) rfl rfl ?_
        refine wq_st (k := 5) (i := .istore 5) (n := 2) (ls' := [some (.ref 114), some (dz_I a1), some (dz_I a2), some (dz_I s5.1), some (dz_I s5.2.1), some (dz_I 0), none]) (pc' := 98) rfl rfl rfl rfl rfl ?_
        refine wp_s (i := .iconst 0) (n := 1) (pc' := 99) (st' := [dz_I 0]) rfl rfl ?_
        refine wq_st (k := 6) (i := .istore 6) (n := 2) (ls' := [some (.ref 114), some (dz_I a1), some (dz_I a2), some (dz_I s5.1), some (dz_I s5.2.1), some (dz_I 0), some (dz_I 0)]) (pc' := 101) rfl rfl rfl rfl rfl ?_
        refine dz_lpi (P := fun (s8 : Int × Int) => mm_Wp X (D + 5) mm_r165 101 [some (.ref 114), some (dz_I a1), some (dz_I a2), some (dz_I s5.1), some (dz_I s5.2.1), some (dz_I s8.1), some (dz_I s8.2)] [] (hz_0 q4) Q) (fun s8 H => ?_) 5000 (0, 0) H
        refine wp_s (i := .iload 6) (n := 2) (pc' := 103) (st' := [dz_I s8.2]) rfl rfl ?_
        refine wp_s (i := .aload_n 0) (n := 1) (pc' := 104) (st' := [.ref 114, dz_I s8.2]) rfl rfl ?_
        refine wq_gi (idx := 170) (pc' := 107) rfl rfl ho_M rfl rfl ?_
        refine wq_ic (p := dz_c (q4 114 3 0) ≤ dz_c s8.2) (tt := 135) (pc' := 110) rfl rfl (cq_ge rfl rfl) rfl (fun c9 => ?_) (fun c9 => ?_)
        · replace H := dz_it c9 H
          refine wp_s (i := .iload_n 2) (n := 1) (pc' := 136) (st' := [dz_I a2]) rfl rfl ?_
          by_cases c10 : dz_c a2 = 0
          · replace H := dz_it c10 H
            refine wq_ts (x' := dz_c a2) (tt := 180) rfl rfl (by rw [c10]; rfl) ?_
            refine wp_s (i := .aload_n 0) (n := 1) (pc' := 181) (st' := [.ref 114]) rfl rfl ?_
            refine wq_gr (idx := 7) (a := 115) (pc' := 184) rfl rfl ho_M rfl rfl ?_
            refine wp_s (i := .sipush 555) (n := 3) (pc' := 187) (st' := [dz_I 555, .ref 115]) rfl rfl ?_
            refine wq_ia (j' := 555) (pc' := 188) rfl ha_M_0 dk_555 (by decide) (by decide) rfl ?_
            refine wq_ri rfl rfl ?_
            replace H := dz_out H
            replace H := dz_out H
            replace H := dz_sm H
            exact H
          · replace H := dz_if c10 H
            by_cases c11 : dz_c a2 = 1
            · replace H := dz_it c11 H
              refine wq_ts (x' := dz_c a2) (tt := 189) rfl rfl (by rw [c11]; rfl) ?_
              refine wp_s (i := .aload_n 0) (n := 1) (pc' := 190) (st' := [.ref 114]) rfl rfl ?_
              refine wq_gr (idx := 7) (a := 115) (pc' := 193) rfl rfl ho_M rfl rfl ?_
              refine wp_s (i := .sipush 556) (n := 3) (pc' := 196) (st' := [dz_I 556, .ref 115]) rfl rfl ?_
              refine wq_ia (j' := 556) (pc' := 197) rfl ha_M_0 dk_556 (by decide) (by decide) rfl ?_
              refine wq_ri rfl rfl ?_
              replace H := dz_out H
              replace H := dz_out H
              replace H := dz_sm H
              exact H
            · replace H := dz_if c11 H
              by_cases c12 : dz_c a2 = 2
              · replace H := dz_it c12 H
                refine wq_ts (x' := dz_c a2) (tt := 198) rfl rfl (by rw [c12]; rfl) ?_
                refine wp_s (i := .aload_n 0) (n := 1) (pc' := 199) (st' := [.ref 114]) rfl rfl ?_
                refine wp_s (i := .sipush 420) (n := 3) (pc' := 202) (st' := [dz_I 420, .ref 114]) rfl rfl ?_
                refine wp_s (i := .bipush 86) (n := 2) (pc' := 204) (st' := [dz_I 86, dz_I 420, .ref 114]) rfl rfl ?_
                refine wq_cv (Dq := (D + 4)) (r' := mm_r155) (as0 := [dz_I 420, dz_I 86]) (rest := []) (ls' := [some (.ref 114), some (dz_I 420), some (dz_I 86), none, none]) (pc' := 207) rfl rfl rfl rfl ho_M rfl rfl rfl ?_
                refine jw_M_sumOf (X := X) (D := D + 4) 420 86 q4 (dz_pm (dz_bi H) (fun q13 H => ?_))
                show mm_Wp X (D + 5) mm_r165 207 [some (.ref 114), some (dz_I a1), some (dz_I a2), some (dz_I s5.1), some (dz_I s5.2.1), some (dz_I s8.1), some (dz_I s8.2)] [dz_I q13] (hz_0 q4) Q
                refine wq_ri rfl rfl ?_
                replace H := dz_out H
                replace H := dz_out H
                replace H := dz_sm H
                exact H
              · replace H := dz_if c12 H
                by_cases c14 : dz_c a2 = 3
                · replace H := dz_it c14 H
                  refine wq_ts (x' := dz_c a2) (tt := 208) rfl rfl (by rw [c14]; rfl) ?_
                  refine wp_s (i := .aload_n 0) (n := 1) (pc' := 209) (st' := [.ref 114]) rfl rfl ?_
                  refine wp_s (i := .sipush 420) (n := 3) (pc' := 212) (st' := [dz_I 420, .ref 114]) rfl rfl ?_
                  refine wp_s (i := .bipush 110) (n := 2) (pc' := 214) (st' := [dz_I 110, dz_I 420, .ref 114]) rfl rfl ?_
                  refine wq_cv (Dq := (D + 4)) (r' := mm_r155) (as0 := [dz_I 420, dz_I 110]) (rest := []) (ls' := [some (.ref 114), some (dz_I 420), some (dz_I 110), none, none]) (pc' := 217) rfl rfl rfl rfl ho_M rfl rfl rfl ?_
                  refine jw_M_sumOf (X := X) (D := D + 4) 420 110 q4 (dz_pm (dz_bi H) (fun q15 H => ?_))
                  show mm_Wp X (D + 5) mm_r165 217 [some (.ref 114), some (dz_I a1), some (dz_I a2), some (dz_I s5.1), some (dz_I s5.2.1), some (dz_I s8.1), some (dz_I s8.2)] [dz_I q15] (hz_0 q4) Q
                  refine wq_ri rfl rfl ?_
                  replace H := dz_out H
                  replace H := dz_out H
                  replace H := dz_sm H
                  exact H
                · replace H := dz_if c14 H
                  by_cases c16 : dz_c a2 = 4
                  · replace H := dz_it c16 H
                    refine wq_ts (x' := dz_c a2) (tt := 218) rfl rfl (by rw [c16]; rfl) ?_
                    refine wp_s (i := .aload_n 0) (n := 1) (pc' := 219) (st' := [.ref 114]) rfl rfl ?_
                    refine wq_gr (idx := 7) (a := 115) (pc' := 222) rfl rfl ho_M rfl rfl ?_
                    refine wp_s (i := .sipush 557) (n := 3) (pc' := 225) (st' := [dz_I 557, .ref 115]) rfl rfl ?_
                    refine wq_ia (j' := 557) (pc' := 226) rfl ha_M_0 dk_557 (by decide) (by decide) rfl ?_
                    refine wq_ri rfl rfl ?_
                    replace H := dz_out H
                    replace H := dz_out H
                    replace H := dz_sm H
                    exact H
                  · replace H := dz_if c16 H
                    by_cases c17 : dz_c a2 = 5
                    · replace H := dz_it c17 H
                      refine wq_ts (x' := dz_c a2) (tt := 227) rfl rfl (by rw [c17]; rfl) ?_
                      refine wp_s (i := .iload 4) (n := 2) (pc' := 229) (st' := [dz_I s5.2.1]) rfl rfl ?_
                      refine wq_ri rfl rfl ?_
                      replace H := dz_out H
                      replace H := dz_out H
                      replace H := dz_sm H
                      exact H
                    · replace H := dz_if c17 H
                      by_cases c18 : dz_c a2 = 6
                      · replace H := dz_it c18 H
                        refine wq_ts (x' := dz_c a2) (tt := 230) rfl rfl (by rw [c18]; rfl) ?_
                        refine wp_s (i := .iload 5) (n := 2) (pc' := 232) (st' := [dz_I s8.1]) rfl rfl ?_
                        refine wq_ri rfl rfl ?_
                        replace H := dz_out H
                        replace H := dz_out H
                        replace H := dz_sm H
                        exact H
                      · replace H := dz_if c18 H
                        refine wq_ts (x' := dz_c a2) (tt := 233) rfl rfl (by unfold mm_sw; rw [if_pos (by omega)]; rfl) ?_
                        refine wp_s (i := .iconst 1) (n := 1) (pc' := 234) (st' := [dz_I 1]) rfl rfl ?_
                        refine wp_s (i := .aload_n 0) (n := 1) (pc' := 235) (st' := [.ref 114, dz_I 1]) rfl rfl ?_
                        refine wq_gi (idx := 170) (pc' := 238) rfl rfl ho_M rfl rfl ?_
                        refine wq_2 (i := .ishl) (z := dz_sl 1 (q4 114 3 0)) (pc' := 239) rfl rfl (op_shl _ _) rfl ?_
                        refine wp_s (i := .iconst 1) (n := 1) (pc' := 240) (st' := [dz_I 1, dz_I (dz_sl 1 (q4 114 3 0))]) rfl rfl ?_
                        refine wq_2 (i := .isub) (z := (dz_sl 1 (q4 114 3 0)) - 1) (pc' := 241) rfl rfl (op_sub _ _) rfl ?_
                        refine wp_s (i := .aload_n 0) (n := 1) (pc' := 242) (st' := [.ref 114, dz_I ((dz_sl 1 (q4 114 3 0)) - 1)]) rfl rfl ?_
                        refine wq_gi (idx := 237) (pc' := 245) rfl rfl ho_M rfl rfl ?_
                        refine wp_s (i := .iconst (-1)) (n := 1) (pc' := 246) (st' := [dz_I (-1), dz_I (q4 114 37 0), dz_I ((dz_sl 1 (q4 114 3 0)) - 1)]) rfl rfl ?_
                        refine wq_2 (i := .ixor) (z := dz_xo (q4 114 37 0) (-1)) (pc' := 247) rfl rfl (op_xor _ _) rfl ?_
                        refine wq_2 (i := .iand) (z := dz_an ((dz_sl 1 (q4 114 3 0)) - 1) (dz_xo (q4 114 37 0) (-1))) (pc' := 248) rfl rfl (op_and _ _) rfl ?_
                        refine wq_ri rfl rfl ?_
                        replace H := dz_out H
                        replace H := dz_out H
                        replace H := dz_sm H
                        exact H
        · replace H := dz_if c9 H
          refine wp_s (i := .iload 5) (n := 2) (pc' := 112) (st' := [dz_I s8.1]) rfl rfl ?_
          refine wp_s (i := .aload_n 0) (n := 1) (pc' := 113) (st' := [.ref 114, dz_I s8.1]) rfl rfl ?_
          refine wq_gr (idx := 7) (a := 115) (pc' := 116) rfl rfl ho_M rfl rfl ?_
          refine wp_s (i := .sipush 538) (n := 3) (pc' := 119) (st' := [dz_I 538, .ref 115, dz_I s8.1]) rfl rfl ?_
          refine wp_s (i := .iload 6) (n := 2) (pc' := 121) (st' := [dz_I s8.2, dz_I 538, .ref 115, dz_I s8.1]) rfl rfl ?_
          refine wq_2 (i := .iadd) (z := 538 + s8.2) (pc' := 122) rfl rfl (op_add _ _) rfl ?_
          obtain ⟨k19, H⟩ := dz_ck H
          refine wq_ia (j' := dz_c (538 + s8.2)) (pc' := 123) rfl ha_M_0 rfl k19.1 k19.2 rfl ?_
          refine wp_s (i := .iload 6) (n := 2) (pc' := 125) (st' := [dz_I s8.2, dz_I (q4 114 0 (dz_c (538 + s8.2))), dz_I s8.1]) rfl rfl ?_
          refine wq_2 (i := .ishl) (z := dz_sl (q4 114 0 (dz_c (538 + s8.2))) s8.2) (pc' := 126) rfl rfl (op_shl _ _) rfl ?_
          refine wq_2 (i := .ior) (z := dz_or s8.1 (dz_sl (q4 114 0 (dz_c (538 + s8.2))) s8.2)) (pc' := 127) rfl rfl (op_or _ _) rfl ?_
          refine wq_st (k := 5) (i := .istore 5) (n := 2) (ls' := [some (.ref 114), some (dz_I a1), some (dz_I a2), some (dz_I s5.1), some (dz_I s5.2.1), some (dz_I (dz_or s8.1 (dz_sl (q4 114 0 (dz_c (538 + s8.2))) s8.2))), some (dz_I s8.2)]) (pc' := 129) rfl rfl rfl rfl rfl ?_
          refine wq_inc (k := 6) (d := 1) (x := s8.2) (ls' := [some (.ref 114), some (dz_I a1), some (dz_I a2), some (dz_I s5.1), some (dz_I s5.2.1), some (dz_I (dz_or s8.1 (dz_sl (q4 114 0 (dz_c (538 + s8.2))) s8.2))), some (dz_I (s8.2 + 1))]) (pc' := 132) rfl rfl rfl rfl ?_
          refine wp_s (i := .goto (-31)) (n := 3) (pc' := 101) (st' := []) rfl rfl ?_
          replace H := dz_back H
          exact H
      · replace H := dz_if c7 H
        refine wp_s (i := .aload_n 0) (n := 1) (pc' := 47) (st' := [.ref 114]) rfl rfl ?_
        refine wq_gr (idx := 61) (a := 132) (pc' := 50) rfl rfl ho_M rfl rfl ?_
        refine wp_s (i := .iload 5) (n := 2) (pc' := 52) (st' := [dz_I s5.2.2, .ref 132]) rfl rfl ?_
        obtain ⟨k20, H⟩ := dz_ck H
        refine wq_ia (j' := dz_c s5.2.2) (pc' := 53) rfl ha_M_36 rfl k20.1 k20.2 rfl ?_
        refine wp_s (i := .iload_n 3) (n := 1) (pc' := 54) (st' := [dz_I s5.1, dz_I (q4 114 36 (dz_c s5.2.2))]) rfl rfl ?_
        refine dz_jn (P := fun (q22 : Int) => mm_Wp X (D + 5) mm_r165 64 [some (.ref 114), some (dz_I a1), some (dz_I a2), some (dz_I s5.1), some (dz_I s5.2.1), some (dz_I s5.2.2), none] [dz_I q22] (hz_0 q4) Q) (dz_bi H) (fun q22 H => ?_) (fun H => ?_)
        · skip
          refine wq_st (k := 4) (i := .istore 4) (n := 2) (ls' := [some (.ref 114), some (dz_I a1), some (dz_I a2), some (dz_I s5.1), some (dz_I q22), some (dz_I s5.2.2), none]) (pc' := 66) rfl rfl rfl rfl rfl ?_
          refine wp_s (i := .aload_n 0) (n := 1) (pc' := 67) (st' := [.ref 114]) rfl rfl ?_
          refine wq_gr (idx := 61) (a := 132) (pc' := 70) rfl rfl ho_M rfl rfl ?_
          refine wp_s (i := .iload 5) (n := 2) (pc' := 72) (st' := [dz_I s5.2.2, .ref 132]) rfl rfl ?_
          refine wq_ia (j' := dz_c s5.2.2) (pc' := 73) rfl ha_M_36 rfl k20.1 k20.2 rfl ?_
          refine wp_s (i := .iload_n 3) (n := 1) (pc' := 74) (st' := [dz_I s5.1, dz_I (q4 114 36 (dz_c s5.2.2))]) rfl rfl ?_
          refine wq_ic (p := dz_c (q4 114 36 (dz_c s5.2.2)) ≤ dz_c s5.1) (tt := 87) (pc' := 77) rfl rfl (cq_le rfl rfl) rfl (fun c23 => ?_) (fun c23 => ?_)
          · replace H := dz_it c23 H
            refine wp_s (i := .iload_n 3) (n := 1) (pc' := 88) (st' := [dz_I s5.1]) rfl rfl ?_
            refine wq_st (k := 3) (i := .istore_n 3) (n := 1) (ls' := [some (.ref 114), some (dz_I a1), some (dz_I a2), some (dz_I s5.1), some (dz_I q22), some (dz_I s5.2.2), none]) (pc' := 89) rfl rfl rfl rfl rfl ?_
            refine wq_inc (k := 5) (d := 1) (x := s5.2.2) (ls' := [some (.ref 114), some (dz_I a1), some (dz_I a2), some (dz_I s5.1), some (dz_I q22), some (dz_I (s5.2.2 + 1)), none]) (pc' := 92) rfl rfl rfl rfl ?_
            refine wp_s (i := .goto (-56)) (n := 3) (pc' := 36) (st' := []) rfl rfl ?_
            replace H := dz_back H
            exact H
          · replace H := dz_if c23 H
            refine wp_s (i := .aload_n 0) (n := 1) (pc' := 78) (st' := [.ref 114]) rfl rfl ?_
            refine wq_gr (idx := 61) (a := 132) (pc' := 81) rfl rfl ho_M rfl rfl ?_
            refine wp_s (i := .iload 5) (n := 2) (pc' := 83) (st' := [dz_I s5.2.2, .ref 132]) rfl rfl ?_
            refine wq_ia (j' := dz_c s5.2.2) (pc' := 84) rfl ha_M_36 rfl k20.1 k20.2 rfl ?_
            refine wp_s (i := .goto 4) (n := 3) (pc' := 88) (st' := [dz_I (q4 114 36 (dz_c s5.2.2))]) rfl rfl ?_
            refine wq_st (k := 3) (i := .istore_n 3) (n := 1) (ls' := [some (.ref 114), some (dz_I a1), some (dz_I a2), some (dz_I (q4 114 36 (dz_c s5.2.2))), some (dz_I q22), some (dz_I s5.2.2), none]) (pc' := 89) rfl rfl rfl rfl rfl ?_
            refine wq_inc (k := 5) (d := 1) (x := s5.2.2) (ls' := [some (.ref 114), some (dz_I a1), some (dz_I a2), some (dz_I (q4 114 36 (dz_c s5.2.2))), some (dz_I q22), some (dz_I (s5.2.2 + 1)), none]) (pc' := 92) rfl rfl rfl rfl ?_
            refine wp_s (i := .goto (-56)) (n := 3) (pc' := 36) (st' := []) rfl rfl ?_
            replace H := dz_back H
            exact H
        · skip
          refine wq_ic (p := dz_c (q4 114 36 (dz_c s5.2.2)) ≤ dz_c s5.1) (tt := 62) (pc' := 57) rfl rfl (cq_le rfl rfl) rfl (fun c24 => ?_) (fun c24 => ?_)
          · replace H := dz_it c24 H
            refine wp_s (i := .iload 4) (n := 2) (pc' := 64) (st' := [dz_I s5.2.1]) rfl rfl ?_
            replace H := dz_sm H
            exact H
          · replace H := dz_if c24 H
            refine wp_s (i := .iload 5) (n := 2) (pc' := 59) (st' := [dz_I s5.2.2]) rfl rfl ?_
            refine wp_s (i := .goto 5) (n := 3) (pc' := 64) (st' := [dz_I s5.2.2]) rfl rfl ?_
            replace H := dz_sm H
            exact H
    · replace H := dz_if c3 H
      refine wp_s (i := .iconst (-1)) (n := 1) (pc' := 21) (st' := [dz_I (-1)]) rfl rfl ?_
      refine wq_ri rfl rfl ?_
      replace H := dz_sm H
      exact H
-- 166
def jf_M_tune (a1 : Int) (Z : dz_Z) : Option (Int) := if ¬(0 ≤ dz_c a1 ∧ dz_c a1 ≤ dz_c ((Z 114 0 73) - 1)) then (some (-1)) else (if 0 ≤ dz_c (74 + a1) ∧ dz_c (74 + a1) < 700 then some (Z 114 0 (dz_c (74 + a1))) else none)
set_option maxRecDepth 20000 in
theorem jw_M_tune {X : Option (List Int32)} {D : Nat} {Q : Option Value → mm_H → Prop} (a1 : Int) (Z : dz_Z) (H : dz_p (jf_M_tune a1 Z) (fun q => Q (some (dz_I q)) (hz_0 Z))) : mm_Wp X (D + 1) mm_r166 0 [some (.ref 114), some (dz_I a1)] [] (hz_0 Z) Q := by
  unfold jf_M_tune at H
  refine wp_s (i := .iload_n 1) (n := 1) (pc' := 1) (st' := [dz_I a1]) rfl rfl ?_
  refine wq_3 (i := .i2l) (v' := dz_J (dz_c a1)) (pc' := 2) rfl rfl (oq_i2l' rfl) rfl ?_
  refine wp_s (i := .lconst 0) (n := 1) (pc' := 3) (st' := [dz_J 0, dz_J (dz_c a1)]) rfl rfl ?_
  refine wp_s (i := .aload_n 0) (n := 1) (pc' := 4) (st' := [.ref 114, dz_J 0, dz_J (dz_c a1)]) rfl rfl ?_
  refine wq_gr (idx := 7) (a := 115) (pc' := 7) rfl rfl ho_M rfl rfl ?_
  refine wp_s (i := .bipush 73) (n := 2) (pc' := 9) (st' := [dz_I 73, .ref 115, dz_J 0, dz_J (dz_c a1)]) rfl rfl ?_
  refine wq_ia (j' := 73) (pc' := 10) rfl ha_M_0 dk_73 (by decide) (by decide) rfl ?_
  refine wp_s (i := .iconst 1) (n := 1) (pc' := 11) (st' := [dz_I 1, dz_I (Z 114 0 73), dz_J 0, dz_J (dz_c a1)]) rfl rfl ?_
  refine wq_2 (i := .isub) (z := (Z 114 0 73) - 1) (pc' := 12) rfl rfl (op_sub _ _) rfl ?_
  refine wq_3 (i := .i2l) (v' := dz_J (dz_c ((Z 114 0 73) - 1))) (pc' := 13) rfl rfl (oq_i2l' rfl) rfl ?_
  refine wq_cs (Dq := D) (r' := mm_r120) (as0 := [dz_J (dz_c a1), dz_J 0, dz_J (dz_c ((Z 114 0 73) - 1))]) (rest := []) (ls' := [some (dz_J (dz_c a1)), none, some (dz_J 0), none, some (dz_J (dz_c ((Z 114 0 73) - 1))), none]) (pc' := 16) rfl rfl (by decide) rfl rfl rfl rfl rfl ?_
  refine jw_in (a' := dz_c a1) (b' := 0) (c' := dz_c ((Z 114 0 73) - 1)) (dz_lc _) (by decide) (dz_lc _) ?_
  show mm_Wp X (D + 1) mm_r166 16 [some (.ref 114), some (dz_I a1)] [dz_B (decide (0 ≤ dz_c a1 ∧ dz_c a1 ≤ dz_c ((Z 114 0 73) - 1)))] (hz_0 Z) Q
  refine wq_if (p := ¬(0 ≤ dz_c a1 ∧ dz_c a1 ≤ dz_c ((Z 114 0 73) - 1))) (tt := 31) (pc' := 19) rfl rfl (cd_eq) rfl (fun c1 => ?_) (fun c1 => ?_)
  · replace H := dz_it c1 H
    refine wp_s (i := .iconst (-1)) (n := 1) (pc' := 32) (st' := [dz_I (-1)]) rfl rfl ?_
    refine wq_ri rfl rfl ?_
    replace H := dz_sm H
    exact H
  · replace H := dz_if c1 H
    refine wp_s (i := .aload_n 0) (n := 1) (pc' := 20) (st' := [.ref 114]) rfl rfl ?_
    refine wq_gr (idx := 7) (a := 115) (pc' := 23) rfl rfl ho_M rfl rfl ?_
    refine wp_s (i := .bipush 74) (n := 2) (pc' := 25) (st' := [dz_I 74, .ref 115]) rfl rfl ?_
    refine wp_s (i := .iload_n 1) (n := 1) (pc' := 26) (st' := [dz_I a1, dz_I 74, .ref 115]) rfl rfl ?_
    refine wq_2 (i := .iadd) (z := 74 + a1) (pc' := 27) rfl rfl (op_add _ _) rfl ?_
    obtain ⟨k2, H⟩ := dz_ck H
    refine wq_ia (j' := dz_c (74 + a1)) (pc' := 28) rfl ha_M_0 rfl k2.1 k2.2 rfl ?_
    refine wp_s (i := .goto 4) (n := 3) (pc' := 32) (st' := [dz_I (Z 114 0 (dz_c (74 + a1)))]) rfl rfl ?_
    refine wq_ri rfl rfl ?_
    replace H := dz_sm H
    exact H
end mg_25m12
section mg_25m13
-- 167
def jf_M_tells (a1 : Int) (a2 : Int) (Z : dz_Z) : Option (Int × dz_Z) := if ¬(0 ≤ dz_c a1 ∧ dz_c a1 ≤ dz_c (Z 114 0 73)) then (some ((-1), Z)) else (if 0 ≤ dz_c a2 ∧ dz_c a2 ≤ 255 then (if dz_c a1 ≠ 12 then (if 0 ≤ dz_c (74 + a1) ∧ dz_c (74 + a1) < 700 then dz_a (dz_u Z 114 0 (dz_c (74 + a1)) a2) fun Z5 => Option.bind (α := Int) (if dz_c a1 ≠ dz_c (Z5 114 0 73) then (some 0) else (some 1)) (fun (q7 : Int) => dz_a (dz_u Z5 114 0 73 ((Z5 114 0 73) + q7)) fun Z8 => some (Z8 114 0 73, Z8)) else none) else (some ((-3), Z))) else (some ((-1), Z)))
set_option maxRecDepth 20000 in
theorem jw_M_tells {X : Option (List Int32)} {D : Nat} {Q : Option Value → mm_H → Prop} (a1 : Int) (a2 : Int) (Z : dz_Z) (H : dz_p (jf_M_tells a1 a2 Z) (fun q => Q (some (dz_I q.1)) (hz_0 q.2))) : mm_Wp X (D + 1) mm_r167 0 [some (.ref 114), some (dz_I a1), some (dz_I a2)] [] (hz_0 Z) Q := by
  unfold jf_M_tells at H
  refine wp_s (i := .iload_n 1) (n := 1) (pc' := 1) (st' := [dz_I a1]) rfl rfl ?_
  refine wq_3 (i := .i2l) (v' := dz_J (dz_c a1)) (pc' := 2) rfl rfl (oq_i2l' rfl) rfl ?_
  refine wp_s (i := .lconst 0) (n := 1) (pc' := 3) (st' := [dz_J 0, dz_J (dz_c a1)]) rfl rfl ?_
  refine wp_s (i := .aload_n 0) (n := 1) (pc' := 4) (st' := [.ref 114, dz_J 0, dz_J (dz_c a1)]) rfl rfl ?_
  refine wq_gr (idx := 7) (a := 115) (pc' := 7) rfl rfl ho_M rfl rfl ?_
  refine wp_s (i := .bipush 73) (n := 2) (pc' := 9) (st' := [dz_I 73, .ref 115, dz_J 0, dz_J (dz_c a1)]) rfl rfl ?_
  refine wq_ia (j' := 73) (pc' := 10) rfl ha_M_0 dk_73 (by decide) (by decide) rfl ?_
  refine wq_3 (i := .i2l) (v' := dz_J (dz_c (Z 114 0 73))) (pc' := 11) rfl rfl (oq_i2l' rfl) rfl ?_
  refine wq_cs (Dq := D) (r' := mm_r120) (as0 := [dz_J (dz_c a1), dz_J 0, dz_J (dz_c (Z 114 0 73))]) (rest := []) (ls' := [some (dz_J (dz_c a1)), none, some (dz_J 0), none, some (dz_J (dz_c (Z 114 0 73))), none]) (pc' := 14) rfl rfl (by decide) rfl rfl rfl rfl rfl ?_
  refine jw_in (a' := dz_c a1) (b' := 0) (c' := dz_c (Z 114 0 73)) (dz_lc _) (by decide) (dz_lc _) ?_
  show mm_Wp X (D + 1) mm_r167 14 [some (.ref 114), some (dz_I a1), some (dz_I a2)] [dz_B (decide (0 ≤ dz_c a1 ∧ dz_c a1 ≤ dz_c (Z 114 0 73)))] (hz_0 Z) Q
  refine wq_if (p := ¬(0 ≤ dz_c a1 ∧ dz_c a1 ≤ dz_c (Z 114 0 73))) (tt := 29) (pc' := 17) rfl rfl (cd_eq) rfl (fun c1 => ?_) (fun c1 => ?_)
  · replace H := dz_it c1 H
    refine wp_s (i := .iconst (-1)) (n := 1) (pc' := 30) (st' := [dz_I (-1)]) rfl rfl ?_
    refine wq_ri rfl rfl ?_
    replace H := dz_sm H
    exact H
  · replace H := dz_if c1 H
    refine wp_s (i := .iload_n 2) (n := 1) (pc' := 18) (st' := [dz_I a2]) rfl rfl ?_
    refine wq_3 (i := .i2l) (v' := dz_J (dz_c a2)) (pc' := 19) rfl rfl (oq_i2l' rfl) rfl ?_
    refine wp_s (i := .lconst 0) (n := 1) (pc' := 20) (st' := [dz_J 0, dz_J (dz_c a2)]) rfl rfl ?_
    refine wp_s (i := .ldc2_w 251) (n := 3) (pc' := 23) (st' := [dz_J 255, dz_J 0, dz_J (dz_c a2)]) rfl rfl ?_
    refine wq_cs (Dq := D) (r' := mm_r120) (as0 := [dz_J (dz_c a2), dz_J 0, dz_J 255]) (rest := []) (ls' := [some (dz_J (dz_c a2)), none, some (dz_J 0), none, some (dz_J 255), none]) (pc' := 26) rfl rfl (by decide) rfl rfl rfl rfl rfl ?_
    refine jw_in (a' := dz_c a2) (b' := 0) (c' := 255) (dz_lc _) (by decide) (by decide) ?_
    show mm_Wp X (D + 1) mm_r167 26 [some (.ref 114), some (dz_I a1), some (dz_I a2)] [dz_B (decide (0 ≤ dz_c a2 ∧ dz_c a2 ≤ 255))] (hz_0 Z) Q
    refine wq_if (p := 0 ≤ dz_c a2 ∧ dz_c a2 ≤ 255) (tt := 31) (pc' := 29) rfl rfl (cd_ne) rfl (fun c2 => ?_) (fun c2 => ?_)
    · replace H := dz_it c2 H
      refine wp_s (i := .iload_n 1) (n := 1) (pc' := 32) (st' := [dz_I a1]) rfl rfl ?_
      refine wp_s (i := .bipush 12) (n := 2) (pc' := 34) (st' := [dz_I 12, dz_I a1]) rfl rfl ?_
      refine wq_ic (p := dz_c a1 ≠ 12) (tt := 40) (pc' := 37) rfl rfl (cq_ne rfl dk_12) rfl (fun c3 => ?_) (fun c3 => ?_)
      · replace H := dz_it c3 H
        refine wp_s (i := .aload_n 0) (n := 1) (pc' := 41) (st' := [.ref 114]) rfl rfl ?_
        refine wq_gr (idx := 7) (a := 115) (pc' := 44) rfl rfl ho_M rfl rfl ?_
        refine wp_s (i := .bipush 74) (n := 2) (pc' := 46) (st' := [dz_I 74, .ref 115]) rfl rfl ?_
        refine wp_s (i := .iload_n 1) (n := 1) (pc' := 47) (st' := [dz_I a1, dz_I 74, .ref 115]) rfl rfl ?_
        refine wq_2 (i := .iadd) (z := 74 + a1) (pc' := 48) rfl rfl (op_add _ _) rfl ?_
        refine wp_s (i := .iload_n 2) (n := 1) (pc' := 49) (st' := [dz_I a2, dz_I (74 + a1), .ref 115]) rfl rfl ?_
        obtain ⟨k4, H⟩ := dz_ck H
        refine wq_is (j' := dz_c (74 + a1)) (x := a2) (pc' := 50) rfl ha_M_0 rfl k4.1 k4.2 rfl (fun Z5 eZ5 => ?_)
        replace H := dz_le H Z5 eZ5
        clear eZ5
        refine wp_s (i := .aload_n 0) (n := 1) (pc' := 51) (st' := [.ref 114]) rfl rfl ?_
        refine wq_gr (idx := 7) (a := 115) (pc' := 54) rfl rfl ho_M rfl rfl ?_
        refine wp_s (i := .bipush 73) (n := 2) (pc' := 56) (st' := [dz_I 73, .ref 115]) rfl rfl ?_
        refine wp_s (i := .dup2) (n := 1) (pc' := 57) (st' := [dz_I 73, .ref 115, dz_I 73, .ref 115]) rfl rfl ?_
        refine wq_ia (j' := 73) (pc' := 58) rfl ha_M_0 dk_73 (by decide) (by decide) rfl ?_
        refine wp_s (i := .iload_n 1) (n := 1) (pc' := 59) (st' := [dz_I a1, dz_I (Z5 114 0 73), dz_I 73, .ref 115]) rfl rfl ?_
        refine wp_s (i := .aload_n 0) (n := 1) (pc' := 60) (st' := [.ref 114, dz_I a1, dz_I (Z5 114 0 73), dz_I 73, .ref 115]) rfl rfl ?_
        refine wq_gr (idx := 7) (a := 115) (pc' := 63) rfl rfl ho_M rfl rfl ?_
        refine wp_s (i := .bipush 73) (n := 2) (pc' := 65) (st' := [dz_I 73, .ref 115, dz_I a1, dz_I (Z5 114 0 73), dz_I 73, .ref 115]) rfl rfl ?_
        refine wq_ia (j' := 73) (pc' := 66) rfl ha_M_0 dk_73 (by decide) (by decide) rfl ?_
        refine dz_jn (P := fun (q7 : Int) => mm_Wp X (D + 1) mm_r167 74 [some (.ref 114), some (dz_I a1), some (dz_I a2)] [dz_I q7, dz_I (Z5 114 0 73), dz_I 73, .ref 115] (hz_0 Z5) Q) (dz_bi H) (fun q7 H => ?_) (fun H => ?_)
        · skip
          refine wq_2 (i := .iadd) (z := (Z5 114 0 73) + q7) (pc' := 75) rfl rfl (op_add _ _) rfl ?_
          refine wq_is (j' := 73) (x := (Z5 114 0 73) + q7) (pc' := 76) rfl ha_M_0 dk_73 (by decide) (by decide) rfl (fun Z8 eZ8 => ?_)
          replace H := dz_le H Z8 eZ8
          clear eZ8
          refine wp_s (i := .aload_n 0) (n := 1) (pc' := 77) (st' := [.ref 114]) rfl rfl ?_
          refine wq_gr (idx := 7) (a := 115) (pc' := 80) rfl rfl ho_M rfl rfl ?_
          refine wp_s (i := .bipush 73) (n := 2) (pc' := 82) (st' := [dz_I 73, .ref 115]) rfl rfl ?_
          refine wq_ia (j' := 73) (pc' := 83) rfl ha_M_0 dk_73 (by decide) (by decide) rfl ?_
          refine wq_ri rfl rfl ?_
          replace H := dz_sm H
          exact H
        · skip
          refine wq_ic (p := dz_c a1 ≠ dz_c (Z5 114 0 73)) (tt := 73) (pc' := 69) rfl rfl (cq_ne rfl rfl) rfl (fun c9 => ?_) (fun c9 => ?_)
          · replace H := dz_it c9 H
            refine wp_s (i := .iconst 0) (n := 1) (pc' := 74) (st' := [dz_I 0, dz_I (Z5 114 0 73), dz_I 73, .ref 115]) rfl rfl ?_
            replace H := dz_sm H
            exact H
          · replace H := dz_if c9 H
            refine wp_s (i := .iconst 1) (n := 1) (pc' := 70) (st' := [dz_I 1, dz_I (Z5 114 0 73), dz_I 73, .ref 115]) rfl rfl ?_
            refine wp_s (i := .goto 4) (n := 3) (pc' := 74) (st' := [dz_I 1, dz_I (Z5 114 0 73), dz_I 73, .ref 115]) rfl rfl ?_
            replace H := dz_sm H
            exact H
      · replace H := dz_if c3 H
        refine wp_s (i := .bipush (-3)) (n := 2) (pc' := 39) (st' := [dz_I (-3)]) rfl rfl ?_
        refine wq_ri rfl rfl ?_
        replace H := dz_sm H
        exact H
    · replace H := dz_if c2 H
      refine wp_s (i := .iconst (-1)) (n := 1) (pc' := 30) (st' := [dz_I (-1)]) rfl rfl ?_
      refine wq_ri rfl rfl ?_
      replace H := dz_sm H
      exact H
-- 168
def jf_M_bitsOf (a1 : Int) : Option (Int) := dz_lp (fun (s1 : Int × Int) => if 8 ≤ dz_c s1.2 then (some (Sum.inr s1.1)) else (some (Sum.inl (s1.1 + (dz_an (dz_sr a1 s1.2) 1), s1.2 + 1)))) 5000 (0, 0)
set_option maxRecDepth 20000 in
theorem jw_M_bitsOf {X : Option (List Int32)} {D : Nat} {Q : Option Value → mm_H → Prop} (a1 : Int) (Z : dz_Z) (H : dz_p (jf_M_bitsOf a1) (fun q => Q (some (dz_I q)) (hz_0 Z))) : mm_Wp X D mm_r168 0 [some (dz_I a1), none, none] [] (hz_0 Z) Q := by
  unfold jf_M_bitsOf at H
  refine wp_s (i := .iconst 0) (n := 1) (pc' := 1) (st' := [dz_I 0]) rfl rfl ?_
  refine wq_st (k := 1) (i := .istore_n 1) (n := 1) (ls' := [some (dz_I a1), some (dz_I 0), none]) (pc' := 2) rfl rfl rfl rfl rfl ?_
  refine wp_s (i := .iconst 0) (n := 1) (pc' := 3) (st' := [dz_I 0]) rfl rfl ?_
  refine wq_st (k := 2) (i := .istore_n 2) (n := 1) (ls' := [some (dz_I a1), some (dz_I 0), some (dz_I 0)]) (pc' := 4) rfl rfl rfl rfl rfl ?_
  refine dz_lpi (P := fun (s1 : Int × Int) => mm_Wp X D mm_r168 4 [some (dz_I a1), some (dz_I s1.1), some (dz_I s1.2)] [] (hz_0 Z) Q) (fun s1 H => ?_) 5000 (0, 0) H
  refine wp_s (i := .iload_n 2) (n := 1) (pc' := 5) (st' := [dz_I s1.2]) rfl rfl ?_
  refine wp_s (i := .bipush 8) (n := 2) (pc' := 7) (st' := [dz_I 8, dz_I s1.2]) rfl rfl ?_
  refine wq_ic (p := 8 ≤ dz_c s1.2) (tt := 24) (pc' := 10) rfl rfl (cq_ge rfl dk_8) rfl (fun c2 => ?_) (fun c2 => ?_)
  · replace H := dz_it c2 H
    refine wp_s (i := .iload_n 1) (n := 1) (pc' := 25) (st' := [dz_I s1.1]) rfl rfl ?_
    refine wq_ri rfl rfl ?_
    replace H := dz_out H
    replace H := dz_sm H
    exact H
  · replace H := dz_if c2 H
    refine wp_s (i := .iload_n 1) (n := 1) (pc' := 11) (st' := [dz_I s1.1]) rfl rfl ?_
    refine wp_s (i := .iload_n 0) (n := 1) (pc' := 12) (st' := [dz_I a1, dz_I s1.1]) rfl rfl ?_
    refine wp_s (i := .iload_n 2) (n := 1) (pc' := 13) (st' := [dz_I s1.2, dz_I a1, dz_I s1.1]) rfl rfl ?_
    refine wq_2 (i := .ishr) (z := dz_sr a1 s1.2) (pc' := 14) rfl rfl (op_shr _ _) rfl ?_
    refine wp_s (i := .iconst 1) (n := 1) (pc' := 15) (st' := [dz_I 1, dz_I (dz_sr a1 s1.2), dz_I s1.1]) rfl rfl ?_
    refine wq_2 (i := .iand) (z := dz_an (dz_sr a1 s1.2) 1) (pc' := 16) rfl rfl (op_and _ _) rfl ?_
    refine wq_2 (i := .iadd) (z := s1.1 + (dz_an (dz_sr a1 s1.2) 1)) (pc' := 17) rfl rfl (op_add _ _) rfl ?_
    refine wq_st (k := 1) (i := .istore_n 1) (n := 1) (ls' := [some (dz_I a1), some (dz_I (s1.1 + (dz_an (dz_sr a1 s1.2) 1))), some (dz_I s1.2)]) (pc' := 18) rfl rfl rfl rfl rfl ?_
    refine wq_inc (k := 2) (d := 1) (x := s1.2) (ls' := [some (dz_I a1), some (dz_I (s1.1 + (dz_an (dz_sr a1 s1.2) 1))), some (dz_I (s1.2 + 1))]) (pc' := 21) rfl rfl rfl rfl ?_
    refine wp_s (i := .goto (-17)) (n := 3) (pc' := 4) (st' := []) rfl rfl ?_
    replace H := dz_back H
    exact H
-- 169
def jf_M_farOf (a1 : Int) (Z : dz_Z) : Option (Int × dz_Z) := Option.bind (jf_M_plays2 a1 Z) fun q1 => dz_lp (fun (s2 : Int × Int) => if 12 ≤ dz_c s2.2 then (some (Sum.inr (s2.1, q1))) else (Option.bind (jf_M_lengthOf a1 q1) fun q6 => Option.bind (α := Int) (if dz_c q6 ≤ dz_c s2.2 then (some 0) else (if 0 ≤ dz_c s2.2 ∧ dz_c s2.2 < 12 then some (q1 114 35 (dz_c s2.2)) else none)) (fun (q9 : Int) => Option.bind (α := Int) (if dz_c (q1 114 0 73) ≤ dz_c s2.2 then (some 0) else (if 0 ≤ dz_c (74 + s2.2) ∧ dz_c (74 + s2.2) < 700 then some (q1 114 0 (dz_c (74 + s2.2))) else none)) (fun (q12 : Int) => Option.bind (jf_M_bitsOf (dz_xo q9 q12)) fun q13 => some (Sum.inl (s2.1 + q13, s2.2 + 1)))))) 5000 (0, 0)
set_option maxRecDepth 20000 in
theorem jw_M_farOf {X : Option (List Int32)} {D : Nat} {Q : Option Value → mm_H → Prop} (a1 : Int) (Z : dz_Z) (H : dz_p (jf_M_farOf a1 Z) (fun q => Q (some (dz_I q.1)) (hz_0 q.2))) : mm_Wp X (D + 5) mm_r169 0 [some (.ref 114), some (dz_I a1), none, none, none, none] [] (hz_0 Z) Q := by
  unfold jf_M_farOf at H
  refine wp_s (i := .aload_n 0) (n := 1) (pc' := 1) (st' := [.ref 114]) rfl rfl ?_
  refine wp_s (i := .iload_n 1) (n := 1) (pc' := 2) (st' := [dz_I a1, .ref 114]) rfl rfl ?_
  refine wq_cv (Dq := (D + 4)) (r' := mm_r162) (as0 := [dz_I a1]) (rest := []) (ls' := [some (.ref 114), some (dz_I a1)]) (pc' := 5) rfl rfl rfl rfl ho_M rfl rfl rfl ?_
  refine jw_M_plays2 (X := X) (D := D + 0) a1 Z (dz_pm (dz_bi H) (fun q1 H => ?_))
  show mm_Wp X (D + 5) mm_r169 5 [some (.ref 114), some (dz_I a1), none, none, none, none] [] (hz_0 q1) Q
  refine wp_s (i := .iconst 0) (n := 1) (pc' := 6) (st' := [dz_I 0]) rfl rfl ?_
  refine wq_st (k := 2) (i := .istore_n 2) (n := 1) (ls' := [some (.ref 114), some (dz_I a1), some (dz_I 0), none, none, none]) (pc' := 7) rfl rfl rfl rfl rfl ?_
  refine wp_s (i := .iconst 0) (n := 1) (pc' := 8) (st' := [dz_I 0]) rfl rfl ?_
  refine wq_st (k := 3) (i := .istore_n 3) (n := 1) (ls' := [some (.ref 114), some (dz_I a1), some (dz_I 0), some (dz_I 0), none, none]) (pc' := 9) rfl rfl rfl rfl rfl ?_
  refine dz_lpi (P := fun (s2 : Int × Int) => ∀ (u3 u4 : Option Int32), mm_Wp X (D + 5) mm_r169 9 [some (.ref 114), some (dz_I a1), some (dz_I s2.1), some (dz_I s2.2), Option.map Value.int u3, Option.map Value.int u4] [] (hz_0 q1) Q) (fun s2 H => ?_) 5000 (0, 0) H none none
  intro u3 u4
  refine wp_s (i := .iload_n 3) (n := 1) (pc' := 10) (st' := [dz_I s2.2]) rfl rfl ?_
  refine wp_s (i := .bipush 12) (n := 2) (pc' := 12) (st' := [dz_I 12, dz_I s2.2]) rfl rfl ?_
  refine wq_ic (p := 12 ≤ dz_c s2.2) (tt := 79) (pc' := 15) rfl rfl (cq_ge rfl dk_12) rfl (fun c5 => ?_) (fun c5 => ?_)
  · replace H := dz_it c5 H
    refine wp_s (i := .iload_n 2) (n := 1) (pc' := 80) (st' := [dz_I s2.1]) rfl rfl ?_
    refine wq_ri rfl rfl ?_
    replace H := dz_out H
    replace H := dz_sm H
    exact H
  · replace H := dz_if c5 H
    refine wp_s (i := .iload_n 3) (n := 1) (pc' := 16) (st' := [dz_I s2.2]) rfl rfl ?_
    refine wp_s (i := .aload_n 0) (n := 1) (pc' := 17) (st' := [.ref 114, dz_I s2.2]) rfl rfl ?_
    refine wp_s (i := .iload_n 1) (n := 1) (pc' := 18) (st' := [dz_I a1, .ref 114, dz_I s2.2]) rfl rfl ?_
    refine wq_cv (Dq := (D + 4)) (r' := mm_r160) (as0 := [dz_I a1]) (rest := [dz_I s2.2]) (ls' := [some (.ref 114), some (dz_I a1)]) (pc' := 21) rfl rfl rfl rfl ho_M rfl rfl rfl ?_
    refine jw_M_lengthOf (X := X) (D := D + 4) a1 q1 (dz_pm (dz_bi H) (fun q6 H => ?_))
    show mm_Wp X (D + 5) mm_r169 21 [some (.ref 114), some (dz_I a1), some (dz_I s2.1), some (dz_I s2.2), Option.map Value.int u3, Option.map Value.int u4] [dz_I q6, dz_I s2.2] (hz_0 q1) Q
    refine dz_jn (P := fun (q9 : Int) => mm_Wp X (D + 5) mm_r169 34 [some (.ref 114), some (dz_I a1), some (dz_I s2.1), some (dz_I s2.2), Option.map Value.int u3, Option.map Value.int u4] [dz_I q9] (hz_0 q1) Q) (dz_bi H) (fun q9 H => ?_) (fun H => ?_)
    · skip
      refine wq_st (k := 4) (i := .istore 4) (n := 2) (ls' := [some (.ref 114), some (dz_I a1), some (dz_I s2.1), some (dz_I s2.2), some (dz_I q9), Option.map Value.int u4]) (pc' := 36) rfl rfl rfl rfl rfl ?_
      refine wp_s (i := .iload_n 3) (n := 1) (pc' := 37) (st' := [dz_I s2.2]) rfl rfl ?_
      refine wp_s (i := .aload_n 0) (n := 1) (pc' := 38) (st' := [.ref 114, dz_I s2.2]) rfl rfl ?_
      refine wq_gr (idx := 7) (a := 115) (pc' := 41) rfl rfl ho_M rfl rfl ?_
      refine wp_s (i := .bipush 73) (n := 2) (pc' := 43) (st' := [dz_I 73, .ref 115, dz_I s2.2]) rfl rfl ?_
      refine wq_ia (j' := 73) (pc' := 44) rfl ha_M_0 dk_73 (by decide) (by decide) rfl ?_
      refine dz_jn (P := fun (q12 : Int) => mm_Wp X (D + 5) mm_r169 60 [some (.ref 114), some (dz_I a1), some (dz_I s2.1), some (dz_I s2.2), some (dz_I q9), Option.map Value.int u4] [dz_I q12] (hz_0 q1) Q) (dz_bi H) (fun q12 H => ?_) (fun H => ?_)
      · skip
        refine wq_st (k := 5) (i := .istore 5) (n := 2) (ls' := [some (.ref 114), some (dz_I a1), some (dz_I s2.1), some (dz_I s2.2), some (dz_I q9), some (dz_I q12)]) (pc' := 62) rfl rfl rfl rfl rfl ?_
        refine wp_s (i := .iload_n 2) (n := 1) (pc' := 63) (st' := [dz_I s2.1]) rfl rfl ?_
        refine wp_s (i := .iload 4) (n := 2) (pc' := 65) (st' := [dz_I q9, dz_I s2.1]) rfl rfl ?_
        refine wp_s (i := .iload 5) (n := 2) (pc' := 67) (st' := [dz_I q12, dz_I q9, dz_I s2.1]) rfl rfl ?_
        refine wq_2 (i := .ixor) (z := dz_xo q9 q12) (pc' := 68) rfl rfl (op_xor _ _) rfl ?_
        refine wq_cs (Dq := (D + 4)) (r' := mm_r168) (as0 := [dz_I (dz_xo q9 q12)]) (rest := [dz_I s2.1]) (ls' := [some (dz_I (dz_xo q9 q12)), none, none]) (pc' := 71) rfl rfl (by decide) rfl rfl rfl rfl rfl ?_
        refine jw_M_bitsOf (X := X) (D := D + 4) (dz_xo q9 q12) q1 (dz_pm (dz_bi H) (fun q13 H => ?_))
        show mm_Wp X (D + 5) mm_r169 71 [some (.ref 114), some (dz_I a1), some (dz_I s2.1), some (dz_I s2.2), some (dz_I q9), some (dz_I q12)] [dz_I q13, dz_I s2.1] (hz_0 q1) Q
        refine wq_2 (i := .iadd) (z := s2.1 + q13) (pc' := 72) rfl rfl (op_add _ _) rfl ?_
        refine wq_st (k := 2) (i := .istore_n 2) (n := 1) (ls' := [some (.ref 114), some (dz_I a1), some (dz_I (s2.1 + q13)), some (dz_I s2.2), some (dz_I q9), some (dz_I q12)]) (pc' := 73) rfl rfl rfl rfl rfl ?_
        refine wq_inc (k := 3) (d := 1) (x := s2.2) (ls' := [some (.ref 114), some (dz_I a1), some (dz_I (s2.1 + q13)), some (dz_I (s2.2 + 1)), some (dz_I q9), some (dz_I q12)]) (pc' := 76) rfl rfl rfl rfl ?_
        refine wp_s (i := .goto (-67)) (n := 3) (pc' := 9) (st' := []) rfl rfl ?_
        replace H := dz_back H
        exact H (some (Int32.ofInt q9)) (some (Int32.ofInt q12))
      · skip
        refine wq_ic (p := dz_c (q1 114 0 73) ≤ dz_c s2.2) (tt := 59) (pc' := 47) rfl rfl (cq_ge rfl rfl) rfl (fun c14 => ?_) (fun c14 => ?_)
        · replace H := dz_it c14 H
          refine wp_s (i := .iconst 0) (n := 1) (pc' := 60) (st' := [dz_I 0]) rfl rfl ?_
          replace H := dz_sm H
          exact H
        · replace H := dz_if c14 H
          refine wp_s (i := .aload_n 0) (n := 1) (pc' := 48) (st' := [.ref 114]) rfl rfl ?_
          refine wq_gr (idx := 7) (a := 115) (pc' := 51) rfl rfl ho_M rfl rfl ?_
          refine wp_s (i := .bipush 74) (n := 2) (pc' := 53) (st' := [dz_I 74, .ref 115]) rfl rfl ?_
          refine wp_s (i := .iload_n 3) (n := 1) (pc' := 54) (st' := [dz_I s2.2, dz_I 74, .ref 115]) rfl rfl ?_
          refine wq_2 (i := .iadd) (z := 74 + s2.2) (pc' := 55) rfl rfl (op_add _ _) rfl ?_
          obtain ⟨k15, H⟩ := dz_ck H
          refine wq_ia (j' := dz_c (74 + s2.2)) (pc' := 56) rfl ha_M_0 rfl k15.1 k15.2 rfl ?_
          refine wp_s (i := .goto 4) (n := 3) (pc' := 60) (st' := [dz_I (q1 114 0 (dz_c (74 + s2.2)))]) rfl rfl ?_
          replace H := dz_sm H
          exact H
    · skip
      refine wq_ic (p := dz_c q6 ≤ dz_c s2.2) (tt := 33) (pc' := 24) rfl rfl (cq_ge rfl rfl) rfl (fun c16 => ?_) (fun c16 => ?_)
      · replace H := dz_it c16 H
        refine wp_s (i := .iconst 0) (n := 1) (pc' := 34) (st' := [dz_I 0]) rfl rfl ?_
        replace H := dz_sm H
        exact H
      · replace H := dz_if c16 H
        refine wp_s (i := .aload_n 0) (n := 1) (pc' := 25) (st' := [.ref 114]) rfl rfl ?_
        refine wq_gr (idx := 58) (a := 131) (pc' := 28) rfl rfl ho_M rfl rfl ?_
        refine wp_s (i := .iload_n 3) (n := 1) (pc' := 29) (st' := [dz_I s2.2, .ref 131]) rfl rfl ?_
        obtain ⟨k17, H⟩ := dz_ck H
        refine wq_ia (j' := dz_c s2.2) (pc' := 30) rfl ha_M_35 rfl k17.1 k17.2 rfl ?_
        refine wp_s (i := .goto 4) (n := 3) (pc' := 34) (st' := [dz_I (q1 114 35 (dz_c s2.2))]) rfl rfl ?_
        replace H := dz_sm H
        exact H
-- 170
def jf_M_far (a1 : Int) (Z : dz_Z) : Option (Int × dz_Z) := Option.bind (jf_M_isShower a1 Z) fun q1 => if q1 = false then (some ((-1), Z)) else (Option.bind (jf_M_farOf a1 Z) fun q3 => some (q3.1, q3.2))
set_option maxRecDepth 20000 in
theorem jw_M_far {X : Option (List Int32)} {D : Nat} {Q : Option Value → mm_H → Prop} (a1 : Int) (Z : dz_Z) (H : dz_p (jf_M_far a1 Z) (fun q => Q (some (dz_I q.1)) (hz_0 q.2))) : mm_Wp X (D + 6) mm_r170 0 [some (.ref 114), some (dz_I a1)] [] (hz_0 Z) Q := by
  unfold jf_M_far at H
  refine wp_s (i := .aload_n 0) (n := 1) (pc' := 1) (st' := [.ref 114]) rfl rfl ?_
  refine wp_s (i := .iload_n 1) (n := 1) (pc' := 2) (st' := [dz_I a1, .ref 114]) rfl rfl ?_
  refine wq_cv (Dq := (D + 5)) (r' := mm_r140) (as0 := [dz_I a1]) (rest := []) (ls' := [some (.ref 114), some (dz_I a1)]) (pc' := 5) rfl rfl rfl rfl ho_M rfl rfl rfl ?_
  refine jw_M_isShower (X := X) (D := D + 4) a1 Z (dz_pm (dz_bi H) (fun q1 H => ?_))
  show mm_Wp X (D + 6) mm_r170 5 [some (.ref 114), some (dz_I a1)] [dz_B q1] (hz_0 Z) Q
  refine wq_if (p := q1 = false) (tt := 16) (pc' := 8) rfl rfl (cb_eq) rfl (fun c2 => ?_) (fun c2 => ?_)
  · replace H := dz_it c2 H
    refine wp_s (i := .iconst (-1)) (n := 1) (pc' := 17) (st' := [dz_I (-1)]) rfl rfl ?_
    refine wq_ri rfl rfl ?_
    replace H := dz_sm H
    exact H
  · replace H := dz_if c2 H
    refine wp_s (i := .aload_n 0) (n := 1) (pc' := 9) (st' := [.ref 114]) rfl rfl ?_
    refine wp_s (i := .iload_n 1) (n := 1) (pc' := 10) (st' := [dz_I a1, .ref 114]) rfl rfl ?_
    refine wq_cv (Dq := (D + 5)) (r' := mm_r169) (as0 := [dz_I a1]) (rest := []) (ls' := [some (.ref 114), some (dz_I a1), none, none, none, none]) (pc' := 13) rfl rfl rfl rfl ho_M rfl rfl rfl ?_
    refine jw_M_farOf (X := X) (D := D + 0) a1 Z (dz_pm (dz_bi H) (fun q3 H => ?_))
    show mm_Wp X (D + 6) mm_r170 13 [some (.ref 114), some (dz_I a1)] [dz_I q3.1] (hz_0 q3.2) Q
    refine wp_s (i := .goto 4) (n := 3) (pc' := 17) (st' := [dz_I q3.1]) rfl rfl ?_
    refine wq_ri rfl rfl ?_
    replace H := dz_sm H
    exact H
-- 171
def jf_M_layBest (a1 : Int) (Z : dz_Z) : Option (dz_Z) := Option.bind (jf_M_settingsNow Z) fun q1 => dz_a (dz_u Z 114 38 0 (-4)) fun Z2 => dz_a (dz_u Z2 114 39 0 0) fun Z3 => dz_lp (fun (s4 : Int × dz_Z) => Option.bind (jf_M_settingMany s4.2) fun q6 => if dz_c q6 ≤ dz_c s4.1 then (Option.bind (jf_M_sets q1 s4.2) fun q8 => some (Sum.inr q8)) else (Option.bind (jf_M_sets s4.1 s4.2) fun q9 => Option.bind (jf_M_farOf a1 q9) fun q10 => Option.bind (α := Int) (if dz_c (q10.2 114 38 0) = (-4) then (some 1) else (if dz_c (q10.2 114 39 0) ≤ dz_c q10.1 then (if dz_c q10.1 ≠ dz_c (q10.2 114 39 0) then (some (q10.2 114 40 0)) else (some ((q10.2 114 40 0) + 1))) else (some 1))) (fun (q14 : Int) => dz_a (dz_u q10.2 114 40 0 q14) fun Z15 => if dz_c (Z15 114 38 0) = (-4) then (dz_a (dz_u Z15 114 38 0 s4.1) fun Z17 => dz_a (dz_u Z17 114 39 0 q10.1) fun Z18 => some (Sum.inl (s4.1 + 1, Z18))) else (if dz_c (Z15 114 39 0) ≤ dz_c q10.1 then (some (Sum.inl (s4.1 + 1, Z15))) else (dz_a (dz_u Z15 114 38 0 s4.1) fun Z20 => dz_a (dz_u Z20 114 39 0 q10.1) fun Z21 => some (Sum.inl (s4.1 + 1, Z21))))))) 5000 (0, Z3)
set_option maxRecDepth 20000 in
theorem jw_M_layBest {X : Option (List Int32)} {D : Nat} {Q : Option Value → mm_H → Prop} (a1 : Int) (Z : dz_Z) (H : dz_p (jf_M_layBest a1 Z) (fun q => Q (none) (hz_0 q))) : mm_Wp X (D + 6) mm_r171 0 [some (.ref 114), some (dz_I a1), none, none, none] [] (hz_0 Z) Q := by
  unfold jf_M_layBest at H
  refine wp_s (i := .aload_n 0) (n := 1) (pc' := 1) (st' := [.ref 114]) rfl rfl ?_
  refine wq_cv (Dq := (D + 5)) (r' := mm_r147) (as0 := []) (rest := []) (ls' := [some (.ref 114), none, none]) (pc' := 4) rfl rfl rfl rfl ho_M rfl rfl rfl ?_
  refine jw_M_settingsNow (X := X) (D := D + 5) Z (dz_pm (dz_bi H) (fun q1 H => ?_))
  show mm_Wp X (D + 6) mm_r171 4 [some (.ref 114), some (dz_I a1), none, none, none] [dz_I q1] (hz_0 Z) Q
  refine wq_st (k := 2) (i := .istore_n 2) (n := 1) (ls' := [some (.ref 114), some (dz_I a1), some (dz_I q1), none, none]) (pc' := 5) rfl rfl rfl rfl rfl ?_
  refine wp_s (i := .aload_n 0) (n := 1) (pc' := 6) (st' := [.ref 114]) rfl rfl ?_
  refine wp_s (i := .bipush (-4)) (n := 2) (pc' := 8) (st' := [dz_I (-4), .ref 114]) rfl rfl ?_
  refine wq_pi (idx := 259) (x := (-4)) (pc' := 11) rfl rfl rfl ho_M rfl rfl rfl rfl (fun Z2 eZ2 => ?_)
  replace H := dz_le H Z2 eZ2
  clear eZ2
  refine wp_s (i := .aload_n 0) (n := 1) (pc' := 12) (st' := [.ref 114]) rfl rfl ?_
  refine wp_s (i := .iconst 0) (n := 1) (pc' := 13) (st' := [dz_I 0, .ref 114]) rfl rfl ?_
  refine wq_pi (idx := 262) (x := 0) (pc' := 16) rfl rfl rfl ho_M rfl rfl rfl rfl (fun Z3 eZ3 => ?_)
  replace H := dz_le H Z3 eZ3
  clear eZ3
  refine wp_s (i := .iconst 0) (n := 1) (pc' := 17) (st' := [dz_I 0]) rfl rfl ?_
  refine wq_st (k := 3) (i := .istore_n 3) (n := 1) (ls' := [some (.ref 114), some (dz_I a1), some (dz_I q1), some (dz_I 0), none]) (pc' := 18) rfl rfl rfl rfl rfl ?_
  refine dz_lpi (P := fun (s4 : Int × dz_Z) => ∀ (u5 : Option Int32), mm_Wp X (D + 6) mm_r171 18 [some (.ref 114), some (dz_I a1), some (dz_I q1), some (dz_I s4.1), Option.map Value.int u5] [] (hz_0 s4.2) Q) (fun s4 H => ?_) 5000 (0, Z3) H none
  intro u5
  refine wp_s (i := .iload_n 3) (n := 1) (pc' := 19) (st' := [dz_I s4.1]) rfl rfl ?_
  refine wp_s (i := .aload_n 0) (n := 1) (pc' := 20) (st' := [.ref 114, dz_I s4.1]) rfl rfl ?_
  refine wq_cv (Dq := (D + 5)) (r' := mm_r146) (as0 := []) (rest := [dz_I s4.1]) (ls' := [some (.ref 114), none, none]) (pc' := 23) rfl rfl rfl rfl ho_M rfl rfl rfl ?_
  refine jw_M_settingMany (X := X) (D := D + 5) s4.2 (dz_pm (dz_bi H) (fun q6 H => ?_))
  show mm_Wp X (D + 6) mm_r171 23 [some (.ref 114), some (dz_I a1), some (dz_I q1), some (dz_I s4.1), Option.map Value.int u5] [dz_I q6, dz_I s4.1] (hz_0 s4.2) Q
  refine wq_ic (p := dz_c q6 ≤ dz_c s4.1) (tt := 121) (pc' := 26) rfl rfl (cq_ge rfl rfl) rfl (fun c7 => ?_) (fun c7 => ?_)
  · replace H := dz_it c7 H
    refine wp_s (i := .aload_n 0) (n := 1) (pc' := 122) (st' := [.ref 114]) rfl rfl ?_
    refine wp_s (i := .iload_n 2) (n := 1) (pc' := 123) (st' := [dz_I q1, .ref 114]) rfl rfl ?_
    refine wq_cv (Dq := (D + 5)) (r' := mm_r148) (as0 := [dz_I q1]) (rest := []) (ls' := [some (.ref 114), some (dz_I q1), none, none]) (pc' := 126) rfl rfl rfl rfl ho_M rfl rfl rfl ?_
    refine jw_M_sets (X := X) (D := D + 5) q1 s4.2 (dz_pm (dz_bi H) (fun q8 H => ?_))
    show mm_Wp X (D + 6) mm_r171 126 [some (.ref 114), some (dz_I a1), some (dz_I q1), some (dz_I s4.1), Option.map Value.int u5] [] (hz_0 q8) Q
    refine wq_rv rfl rfl ?_
    replace H := dz_out H
    replace H := dz_sm H
    exact H
  · replace H := dz_if c7 H
    refine wp_s (i := .aload_n 0) (n := 1) (pc' := 27) (st' := [.ref 114]) rfl rfl ?_
    refine wp_s (i := .iload_n 3) (n := 1) (pc' := 28) (st' := [dz_I s4.1, .ref 114]) rfl rfl ?_
    refine wq_cv (Dq := (D + 5)) (r' := mm_r148) (as0 := [dz_I s4.1]) (rest := []) (ls' := [some (.ref 114), some (dz_I s4.1), none, none]) (pc' := 31) rfl rfl rfl rfl ho_M rfl rfl rfl ?_
    refine jw_M_sets (X := X) (D := D + 5) s4.1 s4.2 (dz_pm (dz_bi H) (fun q9 H => ?_))
    show mm_Wp X (D + 6) mm_r171 31 [some (.ref 114), some (dz_I a1), some (dz_I q1), some (dz_I s4.1), Option.map Value.int u5] [] (hz_0 q9) Q
    refine wp_s (i := .aload_n 0) (n := 1) (pc' := 32) (st' := [.ref 114]) rfl rfl ?_
    refine wp_s (i := .iload_n 1) (n := 1) (pc' := 33) (st' := [dz_I a1, .ref 114]) rfl rfl ?_
    refine wq_cv (Dq := (D + 5)) (r' := mm_r169) (as0 := [dz_I a1]) (rest := []) (ls' := [some (.ref 114), some (dz_I a1), none, none, none, none]) (pc' := 36) rfl rfl rfl rfl ho_M rfl rfl rfl ?_
    refine jw_M_farOf (X := X) (D := D + 0) a1 q9 (dz_pm (dz_bi H) (fun q10 H => ?_))
    show mm_Wp X (D + 6) mm_r171 36 [some (.ref 114), some (dz_I a1), some (dz_I q1), some (dz_I s4.1), Option.map Value.int u5] [dz_I q10.1] (hz_0 q10.2) Q
    refine wq_st (k := 4) (i := .istore 4) (n := 2) (ls' := [some (.ref 114), some (dz_I a1), some (dz_I q1), some (dz_I s4.1), some (dz_I q10.1)]) (pc' := 38) rfl rfl rfl rfl rfl ?_
    refine wp_s (i := .aload_n 0) (n := 1) (pc' := 39) (st' := [.ref 114]) rfl rfl ?_
    refine wp_s (i := .aload_n 0) (n := 1) (pc' := 40) (st' := [.ref 114, .ref 114]) rfl rfl ?_
    refine wq_gi (idx := 259) (pc' := 43) rfl rfl ho_M rfl rfl ?_
    refine wp_s (i := .bipush (-4)) (n := 2) (pc' := 45) (st' := [dz_I (-4), dz_I (q10.2 114 38 0), .ref 114]) rfl rfl ?_
    refine dz_jn (P := fun (q14 : Int) => mm_Wp X (D + 6) mm_r171 83 [some (.ref 114), some (dz_I a1), some (dz_I q1), some (dz_I s4.1), some (dz_I q10.1)] [dz_I q14, .ref 114] (hz_0 q10.2) Q) (dz_bi H) (fun q14 H => ?_) (fun H => ?_)
    · skip
      refine wq_pi (idx := 265) (x := q14) (pc' := 86) rfl rfl rfl ho_M rfl rfl rfl rfl (fun Z15 eZ15 => ?_)
      replace H := dz_le H Z15 eZ15
      clear eZ15
      refine wp_s (i := .aload_n 0) (n := 1) (pc' := 87) (st' := [.ref 114]) rfl rfl ?_
      refine wq_gi (idx := 259) (pc' := 90) rfl rfl ho_M rfl rfl ?_
      refine wp_s (i := .bipush (-4)) (n := 2) (pc' := 92) (st' := [dz_I (-4), dz_I (Z15 114 38 0)]) rfl rfl ?_
      refine wq_ic (p := dz_c (Z15 114 38 0) = (-4)) (tt := 104) (pc' := 95) rfl rfl (cq_eq rfl dk_m4) rfl (fun c16 => ?_) (fun c16 => ?_)
      · replace H := dz_it c16 H
        refine wp_s (i := .aload_n 0) (n := 1) (pc' := 105) (st' := [.ref 114]) rfl rfl ?_
        refine wp_s (i := .iload_n 3) (n := 1) (pc' := 106) (st' := [dz_I s4.1, .ref 114]) rfl rfl ?_
        refine wq_pi (idx := 259) (x := s4.1) (pc' := 109) rfl rfl rfl ho_M rfl rfl rfl rfl (fun Z17 eZ17 => ?_)
        replace H := dz_le H Z17 eZ17
        clear eZ17
        refine wp_s (i := .aload_n 0) (n := 1) (pc' := 110) (st' := [.ref 114]) rfl rfl ?_
        refine wp_s (i := .iload 4) (n := 2) (pc' := 112) (st' := [dz_I q10.1, .ref 114]) rfl rfl ?_
        refine wq_pi (idx := 262) (x := q10.1) (pc' := 115) rfl rfl rfl ho_M rfl rfl rfl rfl (fun Z18 eZ18 => ?_)
        replace H := dz_le H Z18 eZ18
        clear eZ18
        refine wq_inc (k := 3) (d := 1) (x := s4.1) (ls' := [some (.ref 114), some (dz_I a1), some (dz_I q1), some (dz_I (s4.1 + 1)), some (dz_I q10.1)]) (pc' := 118) rfl rfl rfl rfl ?_
        refine wp_s (i := .goto (-100)) (n := 3) (pc' := 18) (st' := []) rfl rfl ?_
        replace H := dz_back H
        exact H (some (Int32.ofInt q10.1))
      · replace H := dz_if c16 H
        refine wp_s (i := .iload 4) (n := 2) (pc' := 97) (st' := [dz_I q10.1]) rfl rfl ?_
        refine wp_s (i := .aload_n 0) (n := 1) (pc' := 98) (st' := [.ref 114, dz_I q10.1]) rfl rfl ?_
        refine wq_gi (idx := 262) (pc' := 101) rfl rfl ho_M rfl rfl ?_
        refine wq_ic (p := dz_c (Z15 114 39 0) ≤ dz_c q10.1) (tt := 115) (pc' := 104) rfl rfl (cq_ge rfl rfl) rfl (fun c19 => ?_) (fun c19 => ?_)
        · replace H := dz_it c19 H
          refine wq_inc (k := 3) (d := 1) (x := s4.1) (ls' := [some (.ref 114), some (dz_I a1), some (dz_I q1), some (dz_I (s4.1 + 1)), some (dz_I q10.1)]) (pc' := 118) rfl rfl rfl rfl ?_
          refine wp_s (i := .goto (-100)) (n := 3) (pc' := 18) (st' := []) rfl rfl ?_
          replace H := dz_back H
          exact H (some (Int32.ofInt q10.1))
        · replace H := dz_if c19 H
          refine wp_s (i := .aload_n 0) (n := 1) (pc' := 105) (st' := [.ref 114]) rfl rfl ?_
          refine wp_s (i := .iload_n 3) (n := 1) (pc' := 106) (st' := [dz_I s4.1, .ref 114]) rfl rfl ?_
          refine wq_pi (idx := 259) (x := s4.1) (pc' := 109) rfl rfl rfl ho_M rfl rfl rfl rfl (fun Z20 eZ20 => ?_)
          replace H := dz_le H Z20 eZ20
          clear eZ20
          refine wp_s (i := .aload_n 0) (n := 1) (pc' := 110) (st' := [.ref 114]) rfl rfl ?_
          refine wp_s (i := .iload 4) (n := 2) (pc' := 112) (st' := [dz_I q10.1, .ref 114]) rfl rfl ?_
          refine wq_pi (idx := 262) (x := q10.1) (pc' := 115) rfl rfl rfl ho_M rfl rfl rfl rfl (fun Z21 eZ21 => ?_)
          replace H := dz_le H Z21 eZ21
          clear eZ21
          refine wq_inc (k := 3) (d := 1) (x := s4.1) (ls' := [some (.ref 114), some (dz_I a1), some (dz_I q1), some (dz_I (s4.1 + 1)), some (dz_I q10.1)]) (pc' := 118) rfl rfl rfl rfl ?_
          refine wp_s (i := .goto (-100)) (n := 3) (pc' := 18) (st' := []) rfl rfl ?_
          replace H := dz_back H
          exact H (some (Int32.ofInt q10.1))
    · skip
      refine wq_ic (p := dz_c (q10.2 114 38 0) = (-4)) (tt := 57) (pc' := 48) rfl rfl (cq_eq rfl dk_m4) rfl (fun c22 => ?_) (fun c22 => ?_)
      · replace H := dz_it c22 H
        refine wp_s (i := .iconst 1) (n := 1) (pc' := 58) (st' := [dz_I 1, .ref 114]) rfl rfl ?_
        refine wp_s (i := .goto 25) (n := 3) (pc' := 83) (st' := [dz_I 1, .ref 114]) rfl rfl ?_
        replace H := dz_sm H
        exact H
      · replace H := dz_if c22 H
        refine wp_s (i := .iload 4) (n := 2) (pc' := 50) (st' := [dz_I q10.1, .ref 114]) rfl rfl ?_
        refine wp_s (i := .aload_n 0) (n := 1) (pc' := 51) (st' := [.ref 114, dz_I q10.1, .ref 114]) rfl rfl ?_
        refine wq_gi (idx := 262) (pc' := 54) rfl rfl ho_M rfl rfl ?_
        refine wq_ic (p := dz_c (q10.2 114 39 0) ≤ dz_c q10.1) (tt := 61) (pc' := 57) rfl rfl (cq_ge rfl rfl) rfl (fun c23 => ?_) (fun c23 => ?_)
        · replace H := dz_it c23 H
          refine wp_s (i := .iload 4) (n := 2) (pc' := 63) (st' := [dz_I q10.1, .ref 114]) rfl rfl ?_
          refine wp_s (i := .aload_n 0) (n := 1) (pc' := 64) (st' := [.ref 114, dz_I q10.1, .ref 114]) rfl rfl ?_
          refine wq_gi (idx := 262) (pc' := 67) rfl rfl ho_M rfl rfl ?_
          refine wq_ic (p := dz_c q10.1 ≠ dz_c (q10.2 114 39 0)) (tt := 79) (pc' := 70) rfl rfl (cq_ne rfl rfl) rfl (fun c24 => ?_) (fun c24 => ?_)
          · replace H := dz_it c24 H
            refine wp_s (i := .aload_n 0) (n := 1) (pc' := 80) (st' := [.ref 114, .ref 114]) rfl rfl ?_
            refine wq_gi (idx := 265) (pc' := 83) rfl rfl ho_M rfl rfl ?_
            replace H := dz_sm H
            exact H
          · replace H := dz_if c24 H
            refine wp_s (i := .aload_n 0) (n := 1) (pc' := 71) (st' := [.ref 114, .ref 114]) rfl rfl ?_
            refine wq_gi (idx := 265) (pc' := 74) rfl rfl ho_M rfl rfl ?_
            refine wp_s (i := .iconst 1) (n := 1) (pc' := 75) (st' := [dz_I 1, dz_I (q10.2 114 40 0), .ref 114]) rfl rfl ?_
            refine wq_2 (i := .iadd) (z := (q10.2 114 40 0) + 1) (pc' := 76) rfl rfl (op_add _ _) rfl ?_
            refine wp_s (i := .goto 7) (n := 3) (pc' := 83) (st' := [dz_I ((q10.2 114 40 0) + 1), .ref 114]) rfl rfl ?_
            replace H := dz_sm H
            exact H
        · replace H := dz_if c23 H
          refine wp_s (i := .iconst 1) (n := 1) (pc' := 58) (st' := [dz_I 1, .ref 114]) rfl rfl ?_
          refine wp_s (i := .goto 25) (n := 3) (pc' := 83) (st' := [dz_I 1, .ref 114]) rfl rfl ?_
          replace H := dz_sm H
          exact H
-- 172
def jf_M_best (a1 : Int) (a2 : Int) (Z : dz_Z) : Option (Int × dz_Z) := Option.bind (jf_M_isShower a1 Z) fun q1 => if q1 = false then (some ((-1), Z)) else (if 0 ≤ dz_c a2 ∧ dz_c a2 ≤ 2 then (Option.bind (jf_M_layBest a1 Z) fun q4 => if dz_c a2 ≠ 0 then (if dz_c a2 ≠ 1 then (some (q4 114 40 0, q4)) else (some (q4 114 39 0, q4))) else (some (q4 114 38 0, q4))) else (some ((-1), Z)))
set_option maxRecDepth 20000 in
theorem jw_M_best {X : Option (List Int32)} {D : Nat} {Q : Option Value → mm_H → Prop} (a1 : Int) (a2 : Int) (Z : dz_Z) (H : dz_p (jf_M_best a1 a2 Z) (fun q => Q (some (dz_I q.1)) (hz_0 q.2))) : mm_Wp X (D + 7) mm_r172 0 [some (.ref 114), some (dz_I a1), some (dz_I a2)] [] (hz_0 Z) Q := by
  unfold jf_M_best at H
  refine wp_s (i := .aload_n 0) (n := 1) (pc' := 1) (st' := [.ref 114]) rfl rfl ?_
  refine wp_s (i := .iload_n 1) (n := 1) (pc' := 2) (st' := [dz_I a1, .ref 114]) rfl rfl ?_
  refine wq_cv (Dq := (D + 6)) (r' := mm_r140) (as0 := [dz_I a1]) (rest := []) (ls' := [some (.ref 114), some (dz_I a1)]) (pc' := 5) rfl rfl rfl rfl ho_M rfl rfl rfl ?_
  refine jw_M_isShower (X := X) (D := D + 5) a1 Z (dz_pm (dz_bi H) (fun q1 H => ?_))
  show mm_Wp X (D + 7) mm_r172 5 [some (.ref 114), some (dz_I a1), some (dz_I a2)] [dz_B q1] (hz_0 Z) Q
  refine wq_if (p := q1 = false) (tt := 20) (pc' := 8) rfl rfl (cb_eq) rfl (fun c2 => ?_) (fun c2 => ?_)
  · replace H := dz_it c2 H
    refine wp_s (i := .iconst (-1)) (n := 1) (pc' := 21) (st' := [dz_I (-1)]) rfl rfl ?_
    refine wq_ri rfl rfl ?_
    replace H := dz_sm H
    exact H
  · replace H := dz_if c2 H
    refine wp_s (i := .iload_n 2) (n := 1) (pc' := 9) (st' := [dz_I a2]) rfl rfl ?_
    refine wq_3 (i := .i2l) (v' := dz_J (dz_c a2)) (pc' := 10) rfl rfl (oq_i2l' rfl) rfl ?_
    refine wp_s (i := .lconst 0) (n := 1) (pc' := 11) (st' := [dz_J 0, dz_J (dz_c a2)]) rfl rfl ?_
    refine wp_s (i := .ldc2_w 198) (n := 3) (pc' := 14) (st' := [dz_J 2, dz_J 0, dz_J (dz_c a2)]) rfl rfl ?_
    refine wq_cs (Dq := (D + 6)) (r' := mm_r120) (as0 := [dz_J (dz_c a2), dz_J 0, dz_J 2]) (rest := []) (ls' := [some (dz_J (dz_c a2)), none, some (dz_J 0), none, some (dz_J 2), none]) (pc' := 17) rfl rfl (by decide) rfl rfl rfl rfl rfl ?_
    refine jw_in (a' := dz_c a2) (b' := 0) (c' := 2) (dz_lc _) (by decide) (by decide) ?_
    show mm_Wp X (D + 7) mm_r172 17 [some (.ref 114), some (dz_I a1), some (dz_I a2)] [dz_B (decide (0 ≤ dz_c a2 ∧ dz_c a2 ≤ 2))] (hz_0 Z) Q
    refine wq_if (p := 0 ≤ dz_c a2 ∧ dz_c a2 ≤ 2) (tt := 22) (pc' := 20) rfl rfl (cd_ne) rfl (fun c3 => ?_) (fun c3 => ?_)
    · replace H := dz_it c3 H
      refine wp_s (i := .aload_n 0) (n := 1) (pc' := 23) (st' := [.ref 114]) rfl rfl ?_
      refine wp_s (i := .iload_n 1) (n := 1) (pc' := 24) (st' := [dz_I a1, .ref 114]) rfl rfl ?_
      refine wq_cv (Dq := (D + 6)) (r' := mm_r171) (as0 := [dz_I a1]) (rest := []) (ls' := [some (.ref 114), some (dz_I a1), none, none, none]) (pc' := 27) rfl rfl rfl rfl ho_M rfl rfl rfl ?_
      refine jw_M_layBest (X := X) (D := D + 0) a1 Z (dz_pm (dz_bi H) (fun q4 H => ?_))
      show mm_Wp X (D + 7) mm_r172 27 [some (.ref 114), some (dz_I a1), some (dz_I a2)] [] (hz_0 q4) Q
      refine wp_s (i := .iload_n 2) (n := 1) (pc' := 28) (st' := [dz_I a2]) rfl rfl ?_
      refine wq_if (p := dz_c a2 ≠ 0) (tt := 38) (pc' := 31) rfl rfl (cz_ne rfl) rfl (fun c5 => ?_) (fun c5 => ?_)
      · replace H := dz_it c5 H
        refine wp_s (i := .iload_n 2) (n := 1) (pc' := 39) (st' := [dz_I a2]) rfl rfl ?_
        refine wp_s (i := .iconst 1) (n := 1) (pc' := 40) (st' := [dz_I 1, dz_I a2]) rfl rfl ?_
        refine wq_ic (p := dz_c a2 ≠ 1) (tt := 50) (pc' := 43) rfl rfl (cq_ne rfl dk_1) rfl (fun c6 => ?_) (fun c6 => ?_)
        · replace H := dz_it c6 H
          refine wp_s (i := .aload_n 0) (n := 1) (pc' := 51) (st' := [.ref 114]) rfl rfl ?_
          refine wq_gi (idx := 265) (pc' := 54) rfl rfl ho_M rfl rfl ?_
          refine wq_ri rfl rfl ?_
          replace H := dz_sm H
          exact H
        · replace H := dz_if c6 H
          refine wp_s (i := .aload_n 0) (n := 1) (pc' := 44) (st' := [.ref 114]) rfl rfl ?_
          refine wq_gi (idx := 262) (pc' := 47) rfl rfl ho_M rfl rfl ?_
          refine wp_s (i := .goto 7) (n := 3) (pc' := 54) (st' := [dz_I (q4 114 39 0)]) rfl rfl ?_
          refine wq_ri rfl rfl ?_
          replace H := dz_sm H
          exact H
      · replace H := dz_if c5 H
        refine wp_s (i := .aload_n 0) (n := 1) (pc' := 32) (st' := [.ref 114]) rfl rfl ?_
        refine wq_gi (idx := 259) (pc' := 35) rfl rfl ho_M rfl rfl ?_
        refine wp_s (i := .goto 19) (n := 3) (pc' := 54) (st' := [dz_I (q4 114 38 0)]) rfl rfl ?_
        refine wq_ri rfl rfl ?_
        replace H := dz_sm H
        exact H
    · replace H := dz_if c3 H
      refine wp_s (i := .iconst (-1)) (n := 1) (pc' := 21) (st' := [dz_I (-1)]) rfl rfl ?_
      refine wq_ri rfl rfl ?_
      replace H := dz_sm H
      exact H
-- 173
def jf_M_unlikePegs (a1 : Int) (a2 : Int) (Z : dz_Z) : Option (Int) := dz_lp (fun (s1 : Int × Int × Int × Int) => if dz_c (Z 114 2 0) ≤ dz_c s1.2.2.2 then (some (Sum.inr s1.1)) else (Option.bind (α := Int) (if dz_c (Int.tmod (dz_c s1.2.1) 3) ≠ dz_c (Int.tmod (dz_c s1.2.2.1) 3) then (some 1) else (some 0)) (fun (q4 : Int) => some (Sum.inl (s1.1 + q4, Int.tdiv (dz_c s1.2.1) 3, Int.tdiv (dz_c s1.2.2.1) 3, s1.2.2.2 + 1))))) 5000 (0, a1, a2, 0)
set_option maxRecDepth 20000 in
theorem jw_M_unlikePegs {X : Option (List Int32)} {D : Nat} {Q : Option Value → mm_H → Prop} (a1 : Int) (a2 : Int) (Z : dz_Z) (H : dz_p (jf_M_unlikePegs a1 a2 Z) (fun q => Q (some (dz_I q)) (hz_0 Z))) : mm_Wp X D mm_r173 0 [some (.ref 114), some (dz_I a1), some (dz_I a2), none, none, none, none] [] (hz_0 Z) Q := by
  unfold jf_M_unlikePegs at H
  refine wp_s (i := .iconst 0) (n := 1) (pc' := 1) (st' := [dz_I 0]) rfl rfl ?_
  refine wq_st (k := 3) (i := .istore_n 3) (n := 1) (ls' := [some (.ref 114), some (dz_I a1), some (dz_I a2), some (dz_I 0), none, none, none]) (pc' := 2) rfl rfl rfl rfl rfl ?_
  refine wp_s (i := .iload_n 1) (n := 1) (pc' := 3) (st' := [dz_I a1]) rfl rfl ?_
  refine wq_st (k := 4) (i := .istore 4) (n := 2) (ls' := [some (.ref 114), some (dz_I a1), some (dz_I a2), some (dz_I 0), some (dz_I a1), none, none]) (pc' := 5) rfl rfl rfl rfl rfl ?_
  refine wp_s (i := .iload_n 2) (n := 1) (pc' := 6) (st' := [dz_I a2]) rfl rfl ?_
  refine wq_st (k := 5) (i := .istore 5) (n := 2) (ls' := [some (.ref 114), some (dz_I a1), some (dz_I a2), some (dz_I 0), some (dz_I a1), some (dz_I a2), none]) (pc' := 8) rfl rfl rfl rfl rfl ?_
  refine wp_s (i := .iconst 0) (n := 1) (pc' := 9) (st' := [dz_I 0]) rfl rfl ?_
  refine wq_st (k := 6) (i := .istore 6) (n := 2) (ls' := [some (.ref 114), some (dz_I a1), some (dz_I a2), some (dz_I 0), some (dz_I a1), some (dz_I a2), some (dz_I 0)]) (pc' := 11) rfl rfl rfl rfl rfl ?_
  refine dz_lpi (P := fun (s1 : Int × Int × Int × Int) => mm_Wp X D mm_r173 11 [some (.ref 114), some (dz_I a1), some (dz_I a2), some (dz_I s1.1), some (dz_I s1.2.1), some (dz_I s1.2.2.1), some (dz_I s1.2.2.2)] [] (hz_0 Z) Q) (fun s1 H => ?_) 5000 (0, a1, a2, 0) H
  refine wp_s (i := .iload 6) (n := 2) (pc' := 13) (st' := [dz_I s1.2.2.2]) rfl rfl ?_
  refine wp_s (i := .aload_n 0) (n := 1) (pc' := 14) (st' := [.ref 114, dz_I s1.2.2.2]) rfl rfl ?_
  refine wq_gi (idx := 167) (pc' := 17) rfl rfl ho_M rfl rfl ?_
  refine wq_ic (p := dz_c (Z 114 2 0) ≤ dz_c s1.2.2.2) (tt := 57) (pc' := 20) rfl rfl (cq_ge rfl rfl) rfl (fun c2 => ?_) (fun c2 => ?_)
  · replace H := dz_it c2 H
    refine wp_s (i := .iload_n 3) (n := 1) (pc' := 58) (st' := [dz_I s1.1]) rfl rfl ?_
    refine wq_ri rfl rfl ?_
    replace H := dz_out H
    replace H := dz_sm H
    exact H
  · replace H := dz_if c2 H
    refine wp_s (i := .iload_n 3) (n := 1) (pc' := 21) (st' := [dz_I s1.1]) rfl rfl ?_
    refine wp_s (i := .iload 4) (n := 2) (pc' := 23) (st' := [dz_I s1.2.1, dz_I s1.1]) rfl rfl ?_
    refine wp_s (i := .iconst 3) (n := 1) (pc' := 24) (st' := [dz_I 3, dz_I s1.2.1, dz_I s1.1]) rfl rfl ?_
    refine wq_2 (i := .irem) (z := Int.tmod (dz_c s1.2.1) 3) (pc' := 25) rfl rfl (op_rem rfl dk_3 (by decide)) rfl ?_
    refine wp_s (i := .iload 5) (n := 2) (pc' := 27) (st' := [dz_I s1.2.2.1, dz_I (Int.tmod (dz_c s1.2.1) 3), dz_I s1.1]) rfl rfl ?_
    refine wp_s (i := .iconst 3) (n := 1) (pc' := 28) (st' := [dz_I 3, dz_I s1.2.2.1, dz_I (Int.tmod (dz_c s1.2.1) 3), dz_I s1.1]) rfl rfl ?_
    refine wq_2 (i := .irem) (z := Int.tmod (dz_c s1.2.2.1) 3) (pc' := 29) rfl rfl (op_rem rfl dk_3 (by decide)) rfl ?_
    refine dz_jn (P := fun (q4 : Int) => mm_Wp X D mm_r173 37 [some (.ref 114), some (dz_I a1), some (dz_I a2), some (dz_I s1.1), some (dz_I s1.2.1), some (dz_I s1.2.2.1), some (dz_I s1.2.2.2)] [dz_I q4, dz_I s1.1] (hz_0 Z) Q) (dz_bi H) (fun q4 H => ?_) (fun H => ?_)
    · skip
      refine wq_2 (i := .iadd) (z := s1.1 + q4) (pc' := 38) rfl rfl (op_add _ _) rfl ?_
      refine wq_st (k := 3) (i := .istore_n 3) (n := 1) (ls' := [some (.ref 114), some (dz_I a1), some (dz_I a2), some (dz_I (s1.1 + q4)), some (dz_I s1.2.1), some (dz_I s1.2.2.1), some (dz_I s1.2.2.2)]) (pc' := 39) rfl rfl rfl rfl rfl ?_
      refine wp_s (i := .iload 4) (n := 2) (pc' := 41) (st' := [dz_I s1.2.1]) rfl rfl ?_
      refine wp_s (i := .iconst 3) (n := 1) (pc' := 42) (st' := [dz_I 3, dz_I s1.2.1]) rfl rfl ?_
      refine wq_2 (i := .idiv) (z := Int.tdiv (dz_c s1.2.1) 3) (pc' := 43) rfl rfl (op_div rfl dk_3 (by decide)) rfl ?_
      refine wq_st (k := 4) (i := .istore 4) (n := 2) (ls' := [some (.ref 114), some (dz_I a1), some (dz_I a2), some (dz_I (s1.1 + q4)), some (dz_I (Int.tdiv (dz_c s1.2.1) 3)), some (dz_I s1.2.2.1), some (dz_I s1.2.2.2)]) (pc' := 45) rfl rfl rfl rfl rfl ?_
      refine wp_s (i := .iload 5) (n := 2) (pc' := 47) (st' := [dz_I s1.2.2.1]) rfl rfl ?_
      refine wp_s (i := .iconst 3) (n := 1) (pc' := 48) (st' := [dz_I 3, dz_I s1.2.2.1]) rfl rfl ?_
      refine wq_2 (i := .idiv) (z := Int.tdiv (dz_c s1.2.2.1) 3) (pc' := 49) rfl rfl (op_div rfl dk_3 (by decide)) rfl ?_
      refine wq_st (k := 5) (i := .istore 5) (n := 2) (ls' := [some (.ref 114), some (dz_I a1), some (dz_I a2), some (dz_I (s1.1 + q4)), some (dz_I (Int.tdiv (dz_c s1.2.1) 3)), some (dz_I (Int.tdiv (dz_c s1.2.2.1) 3)), some (dz_I s1.2.2.2)]) (pc' := 51) rfl rfl rfl rfl rfl ?_
      refine wq_inc (k := 6) (d := 1) (x := s1.2.2.2) (ls' := [some (.ref 114), some (dz_I a1), some (dz_I a2), some (dz_I (s1.1 + q4)), some (dz_I (Int.tdiv (dz_c s1.2.1) 3)), some (dz_I (Int.tdiv (dz_c s1.2.2.1) 3)), some (dz_I (s1.2.2.2 + 1))]) (pc' := 54) rfl rfl rfl rfl ?_
      refine wp_s (i := .goto (-43)) (n := 3) (pc' := 11) (st' := []) rfl rfl ?_
      replace H := dz_back H
      exact H
    · skip
      refine wq_ic (p := dz_c (Int.tmod (dz_c s1.2.1) 3) ≠ dz_c (Int.tmod (dz_c s1.2.2.1) 3)) (tt := 36) (pc' := 32) rfl rfl (cq_ne rfl rfl) rfl (fun c5 => ?_) (fun c5 => ?_)
      · replace H := dz_it c5 H
        refine wp_s (i := .iconst 1) (n := 1) (pc' := 37) (st' := [dz_I 1, dz_I s1.1]) rfl rfl ?_
        replace H := dz_sm H
        exact H
      · replace H := dz_if c5 H
        refine wp_s (i := .iconst 0) (n := 1) (pc' := 33) (st' := [dz_I 0, dz_I s1.1]) rfl rfl ?_
        refine wp_s (i := .goto 4) (n := 3) (pc' := 37) (st' := [dz_I 0, dz_I s1.1]) rfl rfl ?_
        replace H := dz_sm H
        exact H
-- 174
def jf_M_fewest (a1 : Int) (a2 : Int) (Z : dz_Z) : Option (Int × dz_Z) := Option.bind (jf_M_isShower a1 Z) fun q1 => if q1 = false then (some ((-1), Z)) else (if 0 ≤ dz_c a2 ∧ dz_c a2 ≤ 1 then (Option.bind (jf_M_layBest a1 Z) fun q4 => Option.bind (jf_M_settingsNow q4) fun q5 => dz_lp (fun (s6 : Int × Int × Int × dz_Z) => Option.bind (jf_M_settingMany s6.2.2.2) fun q8 => if dz_c q8 ≤ dz_c s6.2.2.1 then (Option.bind (jf_M_sets q5 s6.2.2.2) fun q10 => if dz_c a2 ≠ 0 then (some (Sum.inr (s6.2.1, q10))) else (some (Sum.inr (s6.1, q10)))) else (Option.bind (jf_M_sets s6.2.2.1 s6.2.2.2) fun q12 => Option.bind (jf_M_unlikePegs s6.2.2.1 q5 q12) fun q13 => if dz_c s6.1 = (-4) then (Option.bind (jf_M_farOf a1 q12) fun q15 => if dz_c q15.1 ≠ dz_c (q15.2 114 39 0) then (some (Sum.inl (s6.1, s6.2.1, s6.2.2.1 + 1, q15.2))) else (some (Sum.inl (s6.2.2.1, q13, s6.2.2.1 + 1, q15.2)))) else (if dz_c s6.2.1 ≤ dz_c q13 then (some (Sum.inl (s6.1, s6.2.1, s6.2.2.1 + 1, q12))) else (Option.bind (jf_M_farOf a1 q12) fun q18 => if dz_c q18.1 ≠ dz_c (q18.2 114 39 0) then (some (Sum.inl (s6.1, s6.2.1, s6.2.2.1 + 1, q18.2))) else (some (Sum.inl (s6.2.2.1, q13, s6.2.2.1 + 1, q18.2))))))) 5000 ((-4), 0, 0, q4)) else (some ((-1), Z)))
set_option maxRecDepth 20000 in
theorem jw_M_fewest {X : Option (List Int32)} {D : Nat} {Q : Option Value → mm_H → Prop} (a1 : Int) (a2 : Int) (Z : dz_Z) (H : dz_p (jf_M_fewest a1 a2 Z) (fun q => Q (some (dz_I q.1)) (hz_0 q.2))) : mm_Wp X (D + 7) mm_r174 0 [some (.ref 114), some (dz_I a1), some (dz_I a2), none, none, none, none, none] [] (hz_0 Z) Q := by
  unfold jf_M_fewest at H
  refine wp_s (i := .aload_n 0) (n := 1) (pc' := 1) (st' := [.ref 114]) rfl rfl ?_
  refine wp_s (i := .iload_n 1) (n := 1) (pc' := 2) (st' := [dz_I a1, .ref 114]) rfl rfl ?_
  refine wq_cv (Dq := (D + 6)) (r' := mm_r140) (as0 := [dz_I a1]) (rest := []) (ls' := [some (.ref 114), some (dz_I a1)]) (pc' := 5) rfl rfl rfl rfl ho_M rfl rfl rfl ?_
  refine jw_M_isShower (X := X) (D := D + 5) a1 Z (dz_pm (dz_bi H) (fun q1 H => ?_))
  show mm_Wp X (D + 7) mm_r174 5 [some (.ref 114), some (dz_I a1), some (dz_I a2), none, none, none, none, none] [dz_B q1] (hz_0 Z) Q
  refine wq_if (p := q1 = false) (tt := 18) (pc' := 8) rfl rfl (cb_eq) rfl (fun c2 => ?_) (fun c2 => ?_)
  · replace H := dz_it c2 H
    refine wp_s (i := .iconst (-1)) (n := 1) (pc' := 19) (st' := [dz_I (-1)]) rfl rfl ?_
    refine wq_ri rfl rfl ?_
    replace H := dz_sm H
    exact H
  · replace H := dz_if c2 H
    refine wp_s (i := .iload_n 2) (n := 1) (pc' := 9) (st' := [dz_I a2]) rfl rfl ?_
    refine wq_3 (i := .i2l) (v' := dz_J (dz_c a2)) (pc' := 10) rfl rfl (oq_i2l' rfl) rfl ?_
    refine wp_s (i := .lconst 0) (n := 1) (pc' := 11) (st' := [dz_J 0, dz_J (dz_c a2)]) rfl rfl ?_
    refine wp_s (i := .lconst 1) (n := 1) (pc' := 12) (st' := [dz_J 1, dz_J 0, dz_J (dz_c a2)]) rfl rfl ?_
    refine wq_cs (Dq := (D + 6)) (r' := mm_r120) (as0 := [dz_J (dz_c a2), dz_J 0, dz_J 1]) (rest := []) (ls' := [some (dz_J (dz_c a2)), none, some (dz_J 0), none, some (dz_J 1), none]) (pc' := 15) rfl rfl (by decide) rfl rfl rfl rfl rfl ?_
    refine jw_in (a' := dz_c a2) (b' := 0) (c' := 1) (dz_lc _) (by decide) (by decide) ?_
    show mm_Wp X (D + 7) mm_r174 15 [some (.ref 114), some (dz_I a1), some (dz_I a2), none, none, none, none, none] [dz_B (decide (0 ≤ dz_c a2 ∧ dz_c a2 ≤ 1))] (hz_0 Z) Q
    refine wq_if (p := 0 ≤ dz_c a2 ∧ dz_c a2 ≤ 1) (tt := 20) (pc' := 18) rfl rfl (cd_ne) rfl (fun c3 => ?_) (fun c3 => ?_)
    · replace H := dz_it c3 H
      refine wp_s (i := .aload_n 0) (n := 1) (pc' := 21) (st' := [.ref 114]) rfl rfl ?_
      refine wp_s (i := .iload_n 1) (n := 1) (pc' := 22) (st' := [dz_I a1, .ref 114]) rfl rfl ?_
      refine wq_cv (Dq := (D + 6)) (r' := mm_r171) (as0 := [dz_I a1]) (rest := []) (ls' := [some (.ref 114), some (dz_I a1), none, none, none]) (pc' := 25) rfl rfl rfl rfl ho_M rfl rfl rfl ?_
      refine jw_M_layBest (X := X) (D := D + 0) a1 Z (dz_pm (dz_bi H) (fun q4 H => ?_))
      show mm_Wp X (D + 7) mm_r174 25 [some (.ref 114), some (dz_I a1), some (dz_I a2), none, none, none, none, none] [] (hz_0 q4) Q
      refine wp_s (i := .aload_n 0) (n := 1) (pc' := 26) (st' := [.ref 114]) rfl rfl ?_
      refine wq_cv (Dq := (D + 6)) (r' := mm_r147) (as0 := []) (rest := []) (ls' := [some (.ref 114), none, none]) (pc' := 29) rfl rfl rfl rfl ho_M rfl rfl rfl ?_
      refine jw_M_settingsNow (X := X) (D := D + 6) q4 (dz_pm (dz_bi H) (fun q5 H => ?_))
      show mm_Wp X (D + 7) mm_r174 29 [some (.ref 114), some (dz_I a1), some (dz_I a2), none, none, none, none, none] [dz_I q5] (hz_0 q4) Q
      refine wq_st (k := 3) (i := .istore_n 3) (n := 1) (ls' := [some (.ref 114), some (dz_I a1), some (dz_I a2), some (dz_I q5), none, none, none, none]) (pc' := 30) rfl rfl rfl rfl rfl ?_
      refine wp_s (i := .bipush (-4)) (n := 2) (pc' := 32) (st' := [dz_I (-4)]) rfl rfl ?_
      refine wq_st (k := 4) (i := .istore 4) (n := 2) (ls' := [some (.ref 114), some (dz_I a1), some (dz_I a2), some (dz_I q5), some (dz_I (-4)), none, none, none]) (pc' := 34) rfl rfl rfl rfl rfl ?_
      refine wp_s (i := .iconst 0) (n := 1) (pc' := 35) (st' := [dz_I 0]) rfl rfl ?_
      refine wq_st (k := 5) (i := .istore 5) (n := 2) (ls' := [some (.ref 114), some (dz_I a1), some (dz_I a2), some (dz_I q5), some (dz_I (-4)), some (dz_I 0), none, none]) (pc' := 37) rfl rfl rfl rfl rfl ?_
      refine wp_s (i := .iconst 0) (n := 1) (pc' := 38) (st' := [dz_I 0]) rfl rfl ?_
      refine wq_st (k := 6) (i := .istore 6) (n := 2) (ls' := [some (.ref 114), some (dz_I a1), some (dz_I a2), some (dz_I q5), some (dz_I (-4)), some (dz_I 0), some (dz_I 0), none]) (pc' := 40) rfl rfl rfl rfl rfl ?_
      refine dz_lpi (P := fun (s6 : Int × Int × Int × dz_Z) => ∀ (u7 : Option Int32), mm_Wp X (D + 7) mm_r174 40 [some (.ref 114), some (dz_I a1), some (dz_I a2), some (dz_I q5), some (dz_I s6.1), some (dz_I s6.2.1), some (dz_I s6.2.2.1), Option.map Value.int u7] [] (hz_0 s6.2.2.2) Q) (fun s6 H => ?_) 5000 ((-4), 0, 0, q4) H none
      intro u7
      refine wp_s (i := .iload 6) (n := 2) (pc' := 42) (st' := [dz_I s6.2.2.1]) rfl rfl ?_
      refine wp_s (i := .aload_n 0) (n := 1) (pc' := 43) (st' := [.ref 114, dz_I s6.2.2.1]) rfl rfl ?_
      refine wq_cv (Dq := (D + 6)) (r' := mm_r146) (as0 := []) (rest := [dz_I s6.2.2.1]) (ls' := [some (.ref 114), none, none]) (pc' := 46) rfl rfl rfl rfl ho_M rfl rfl rfl ?_
      refine jw_M_settingMany (X := X) (D := D + 6) s6.2.2.2 (dz_pm (dz_bi H) (fun q8 H => ?_))
      show mm_Wp X (D + 7) mm_r174 46 [some (.ref 114), some (dz_I a1), some (dz_I a2), some (dz_I q5), some (dz_I s6.1), some (dz_I s6.2.1), some (dz_I s6.2.2.1), Option.map Value.int u7] [dz_I q8, dz_I s6.2.2.1] (hz_0 s6.2.2.2) Q
      refine wq_ic (p := dz_c q8 ≤ dz_c s6.2.2.1) (tt := 104) (pc' := 49) rfl rfl (cq_ge rfl rfl) rfl (fun c9 => ?_) (fun c9 => ?_)
      · replace H := dz_it c9 H
        refine wp_s (i := .aload_n 0) (n := 1) (pc' := 105) (st' := [.ref 114]) rfl rfl ?_
        refine wp_s (i := .iload_n 3) (n := 1) (pc' := 106) (st' := [dz_I q5, .ref 114]) rfl rfl ?_
        refine wq_cv (Dq := (D + 6)) (r' := mm_r148) (as0 := [dz_I q5]) (rest := []) (ls' := [some (.ref 114), some (dz_I q5), none, none]) (pc' := 109) rfl rfl rfl rfl ho_M rfl rfl rfl ?_
        refine jw_M_sets (X := X) (D := D + 6) q5 s6.2.2.2 (dz_pm (dz_bi H) (fun q10 H => ?_))
        show mm_Wp X (D + 7) mm_r174 109 [some (.ref 114), some (dz_I a1), some (dz_I a2), some (dz_I q5), some (dz_I s6.1), some (dz_I s6.2.1), some (dz_I s6.2.2.1), Option.map Value.int u7] [] (hz_0 q10) Q
        refine wp_s (i := .iload_n 2) (n := 1) (pc' := 110) (st' := [dz_I a2]) rfl rfl ?_
        refine wq_if (p := dz_c a2 ≠ 0) (tt := 118) (pc' := 113) rfl rfl (cz_ne rfl) rfl (fun c11 => ?_) (fun c11 => ?_)
        · replace H := dz_it c11 H
          refine wp_s (i := .iload 5) (n := 2) (pc' := 120) (st' := [dz_I s6.2.1]) rfl rfl ?_
          refine wq_ri rfl rfl ?_
          replace H := dz_out H
          replace H := dz_sm H
          exact H
        · replace H := dz_if c11 H
          refine wp_s (i := .iload 4) (n := 2) (pc' := 115) (st' := [dz_I s6.1]) rfl rfl ?_
          refine wp_s (i := .goto 5) (n := 3) (pc' := 120) (st' := [dz_I s6.1]) rfl rfl ?_
          refine wq_ri rfl rfl ?_
          replace H := dz_out H
          replace H := dz_sm H
          exact H
      · replace H := dz_if c9 H
        refine wp_s (i := .aload_n 0) (n := 1) (pc' := 50) (st' := [.ref 114]) rfl rfl ?_
        refine wp_s (i := .iload 6) (n := 2) (pc' := 52) (st' := [dz_I s6.2.2.1, .ref 114]) rfl rfl ?_
        refine wq_cv (Dq := (D + 6)) (r' := mm_r148) (as0 := [dz_I s6.2.2.1]) (rest := []) (ls' := [some (.ref 114), some (dz_I s6.2.2.1), none, none]) (pc' := 55) rfl rfl rfl rfl ho_M rfl rfl rfl ?_
        refine jw_M_sets (X := X) (D := D + 6) s6.2.2.1 s6.2.2.2 (dz_pm (dz_bi H) (fun q12 H => ?_))
        show mm_Wp X (D + 7) mm_r174 55 [some (.ref 114), some (dz_I a1), some (dz_I a2), some (dz_I q5), some (dz_I s6.1), some (dz_I s6.2.1), some (dz_I s6.2.2.1), Option.map Value.int u7] [] (hz_0 q12) Q
        refine wp_s (i := .aload_n 0) (n := 1) (pc' := 56) (st' := [.ref 114]) rfl rfl ?_
        refine wp_s (i := .iload 6) (n := 2) (pc' := 58) (st' := [dz_I s6.2.2.1, .ref 114]) rfl rfl ?_
        refine wp_s (i := .iload_n 3) (n := 1) (pc' := 59) (st' := [dz_I q5, dz_I s6.2.2.1, .ref 114]) rfl rfl ?_
        refine wq_cv (Dq := (D + 6)) (r' := mm_r173) (as0 := [dz_I s6.2.2.1, dz_I q5]) (rest := []) (ls' := [some (.ref 114), some (dz_I s6.2.2.1), some (dz_I q5), none, none, none, none]) (pc' := 62) rfl rfl rfl rfl ho_M rfl rfl rfl ?_
        refine jw_M_unlikePegs (X := X) (D := D + 6) s6.2.2.1 q5 q12 (dz_pm (dz_bi H) (fun q13 H => ?_))
        show mm_Wp X (D + 7) mm_r174 62 [some (.ref 114), some (dz_I a1), some (dz_I a2), some (dz_I q5), some (dz_I s6.1), some (dz_I s6.2.1), some (dz_I s6.2.2.1), Option.map Value.int u7] [dz_I q13] (hz_0 q12) Q
        refine wq_st (k := 7) (i := .istore 7) (n := 2) (ls' := [some (.ref 114), some (dz_I a1), some (dz_I a2), some (dz_I q5), some (dz_I s6.1), some (dz_I s6.2.1), some (dz_I s6.2.2.1), some (dz_I q13)]) (pc' := 64) rfl rfl rfl rfl rfl ?_
        refine wp_s (i := .iload 4) (n := 2) (pc' := 66) (st' := [dz_I s6.1]) rfl rfl ?_
        refine wp_s (i := .bipush (-4)) (n := 2) (pc' := 68) (st' := [dz_I (-4), dz_I s6.1]) rfl rfl ?_
        refine wq_ic (p := dz_c s6.1 = (-4)) (tt := 78) (pc' := 71) rfl rfl (cq_eq rfl dk_m4) rfl (fun c14 => ?_) (fun c14 => ?_)
        · replace H := dz_it c14 H
          refine wp_s (i := .aload_n 0) (n := 1) (pc' := 79) (st' := [.ref 114]) rfl rfl ?_
          refine wp_s (i := .iload_n 1) (n := 1) (pc' := 80) (st' := [dz_I a1, .ref 114]) rfl rfl ?_
          refine wq_cv (Dq := (D + 6)) (r' := mm_r169) (as0 := [dz_I a1]) (rest := []) (ls' := [some (.ref 114), some (dz_I a1), none, none, none, none]) (pc' := 83) rfl rfl rfl rfl ho_M rfl rfl rfl ?_
          refine jw_M_farOf (X := X) (D := D + 1) a1 q12 (dz_pm (dz_bi H) (fun q15 H => ?_))
          show mm_Wp X (D + 7) mm_r174 83 [some (.ref 114), some (dz_I a1), some (dz_I a2), some (dz_I q5), some (dz_I s6.1), some (dz_I s6.2.1), some (dz_I s6.2.2.1), some (dz_I q13)] [dz_I q15.1] (hz_0 q15.2) Q
          refine wp_s (i := .aload_n 0) (n := 1) (pc' := 84) (st' := [.ref 114, dz_I q15.1]) rfl rfl ?_
          refine wq_gi (idx := 262) (pc' := 87) rfl rfl ho_M rfl rfl ?_
          refine wq_ic (p := dz_c q15.1 ≠ dz_c (q15.2 114 39 0)) (tt := 98) (pc' := 90) rfl rfl (cq_ne rfl rfl) rfl (fun c16 => ?_) (fun c16 => ?_)
          · replace H := dz_it c16 H
            refine wq_inc (k := 6) (d := 1) (x := s6.2.2.1) (ls' := [some (.ref 114), some (dz_I a1), some (dz_I a2), some (dz_I q5), some (dz_I s6.1), some (dz_I s6.2.1), some (dz_I (s6.2.2.1 + 1)), some (dz_I q13)]) (pc' := 101) rfl rfl rfl rfl ?_
            refine wp_s (i := .goto (-61)) (n := 3) (pc' := 40) (st' := []) rfl rfl ?_
            replace H := dz_back H
            exact H (some (Int32.ofInt q13))
          · replace H := dz_if c16 H
            refine wp_s (i := .iload 6) (n := 2) (pc' := 92) (st' := [dz_I s6.2.2.1]) rfl rfl ?_
            refine wq_st (k := 4) (i := .istore 4) (n := 2) (ls' := [some (.ref 114), some (dz_I a1), some (dz_I a2), some (dz_I q5), some (dz_I s6.2.2.1), some (dz_I s6.2.1), some (dz_I s6.2.2.1), some (dz_I q13)]) (pc' := 94) rfl rfl rfl rfl rfl ?_
            refine wp_s (i := .iload 7) (n := 2) (pc' := 96) (st' := [dz_I q13]) rfl rfl ?_
            refine wq_st (k := 5) (i := .istore 5) (n := 2) (ls' := [some (.ref 114), some (dz_I a1), some (dz_I a2), some (dz_I q5), some (dz_I s6.2.2.1), some (dz_I q13), some (dz_I s6.2.2.1), some (dz_I q13)]) (pc' := 98) rfl rfl rfl rfl rfl ?_
            refine wq_inc (k := 6) (d := 1) (x := s6.2.2.1) (ls' := [some (.ref 114), some (dz_I a1), some (dz_I a2), some (dz_I q5), some (dz_I s6.2.2.1), some (dz_I q13), some (dz_I (s6.2.2.1 + 1)), some (dz_I q13)]) (pc' := 101) rfl rfl rfl rfl ?_
            refine wp_s (i := .goto (-61)) (n := 3) (pc' := 40) (st' := []) rfl rfl ?_
            replace H := dz_back H
            exact H (some (Int32.ofInt q13))
        · replace H := dz_if c14 H
          refine wp_s (i := .iload 7) (n := 2) (pc' := 73) (st' := [dz_I q13]) rfl rfl ?_
          refine wp_s (i := .iload 5) (n := 2) (pc' := 75) (st' := [dz_I s6.2.1, dz_I q13]) rfl rfl ?_
          refine wq_ic (p := dz_c s6.2.1 ≤ dz_c q13) (tt := 98) (pc' := 78) rfl rfl (cq_ge rfl rfl) rfl (fun c17 => ?_) (fun c17 => ?_)
          · replace H := dz_it c17 H
            refine wq_inc (k := 6) (d := 1) (x := s6.2.2.1) (ls' := [some (.ref 114), some (dz_I a1), some (dz_I a2), some (dz_I q5), some (dz_I s6.1), some (dz_I s6.2.1), some (dz_I (s6.2.2.1 + 1)), some (dz_I q13)]) (pc' := 101) rfl rfl rfl rfl ?_
            refine wp_s (i := .goto (-61)) (n := 3) (pc' := 40) (st' := []) rfl rfl ?_
            replace H := dz_back H
            exact H (some (Int32.ofInt q13))
          · replace H := dz_if c17 H
            refine wp_s (i := .aload_n 0) (n := 1) (pc' := 79) (st' := [.ref 114]) rfl rfl ?_
            refine wp_s (i := .iload_n 1) (n := 1) (pc' := 80) (st' := [dz_I a1, .ref 114]) rfl rfl ?_
            refine wq_cv (Dq := (D + 6)) (r' := mm_r169) (as0 := [dz_I a1]) (rest := []) (ls' := [some (.ref 114), some (dz_I a1), none, none, none, none]) (pc' := 83) rfl rfl rfl rfl ho_M rfl rfl rfl ?_
            refine jw_M_farOf (X := X) (D := D + 1) a1 q12 (dz_pm (dz_bi H) (fun q18 H => ?_))
            show mm_Wp X (D + 7) mm_r174 83 [some (.ref 114), some (dz_I a1), some (dz_I a2), some (dz_I q5), some (dz_I s6.1), some (dz_I s6.2.1), some (dz_I s6.2.2.1), some (dz_I q13)] [dz_I q18.1] (hz_0 q18.2) Q
            refine wp_s (i := .aload_n 0) (n := 1) (pc' := 84) (st' := [.ref 114, dz_I q18.1]) rfl rfl ?_
            refine wq_gi (idx := 262) (pc' := 87) rfl rfl ho_M rfl rfl ?_
            refine wq_ic (p := dz_c q18.1 ≠ dz_c (q18.2 114 39 0)) (tt := 98) (pc' := 90) rfl rfl (cq_ne rfl rfl) rfl (fun c19 => ?_) (fun c19 => ?_)
            · replace H := dz_it c19 H
              refine wq_inc (k := 6) (d := 1) (x := s6.2.2.1) (ls' := [some (.ref 114), some (dz_I a1), some (dz_I a2), some (dz_I q5), some (dz_I s6.1), some (dz_I s6.2.1), some (dz_I (s6.2.2.1 + 1)), some (dz_I q13)]) (pc' := 101) rfl rfl rfl rfl ?_
              refine wp_s (i := .goto (-61)) (n := 3) (pc' := 40) (st' := []) rfl rfl ?_
              replace H := dz_back H
              exact H (some (Int32.ofInt q13))
            · replace H := dz_if c19 H
              refine wp_s (i := .iload 6) (n := 2) (pc' := 92) (st' := [dz_I s6.2.2.1]) rfl rfl ?_
              refine wq_st (k := 4) (i := .istore 4) (n := 2) (ls' := [some (.ref 114), some (dz_I a1), some (dz_I a2), some (dz_I q5), some (dz_I s6.2.2.1), some (dz_I s6.2.1), some (dz_I s6.2.2.1), some (dz_I q13)]) (pc' := 94) rfl rfl rfl rfl rfl ?_
              refine wp_s (i := .iload 7) (n := 2) (pc' := 96) (st' := [dz_I q13]) rfl rfl ?_
              refine wq_st (k := 5) (i := .istore 5) (n := 2) (ls' := [some (.ref 114), some (dz_I a1), some (dz_I a2), some (dz_I q5), some (dz_I s6.2.2.1), some (dz_I q13), some (dz_I s6.2.2.1), some (dz_I q13)]) (pc' := 98) rfl rfl rfl rfl rfl ?_
              refine wq_inc (k := 6) (d := 1) (x := s6.2.2.1) (ls' := [some (.ref 114), some (dz_I a1), some (dz_I a2), some (dz_I q5), some (dz_I s6.2.2.1), some (dz_I q13), some (dz_I (s6.2.2.1 + 1)), some (dz_I q13)]) (pc' := 101) rfl rfl rfl rfl ?_
              refine wp_s (i := .goto (-61)) (n := 3) (pc' := 40) (st' := []) rfl rfl ?_
              replace H := dz_back H
              exact H (some (Int32.ofInt q13))
    · replace H := dz_if c3 H
      refine wp_s (i := .iconst (-1)) (n := 1) (pc' := 19) (st' := [dz_I (-1)]) rfl rfl ?_
      refine wq_ri rfl rfl ?_
      replace H := dz_sm H
      exact H
-- 175
def jf_M_all (a1 : Int) (Z : dz_Z) : Option (Int × dz_Z) := if 0 ≤ dz_c a1 ∧ dz_c a1 ≤ 1 then (if dz_c (Z 114 4 0) ≠ 0 then (Option.bind (jf_M_settingsNow Z) fun q3 => dz_lp (fun (s4 : Int × Int × Int × dz_Z) => Option.bind (jf_M_settingMany s4.2.2.2) fun q7 => if dz_c q7 ≤ dz_c s4.2.2.1 then (Option.bind (jf_M_sets q3 s4.2.2.2) fun q9 => if dz_c a1 ≠ 0 then (some (Sum.inr (s4.2.1, q9))) else (some (Sum.inr (s4.1, q9)))) else (Option.bind (jf_M_sets s4.2.2.1 s4.2.2.2) fun q11 => dz_lp (fun (s12 : Int × Int × dz_Z) => if dz_c (s12.2.2 114 4 0) ≤ dz_c s12.2.1 then (Option.bind (α := Int) (if dz_c s4.1 = (-4) then (some 1) else (if dz_c s4.2.1 ≤ dz_c s12.1 then (some 0) else (some 1))) (fun (q16 : Int) => Option.bind (α := Int) (if dz_c q16 = 0 then (some s4.1) else (some s4.2.2.1)) (fun (q18 : Int) => if dz_c q16 = 0 then (some (Sum.inr (Sum.inl (q18, s4.2.1, s4.2.2.1 + 1, s12.2.2)))) else (some (Sum.inr (Sum.inl (q18, s12.1, s4.2.2.1 + 1, s12.2.2))))))) else (Option.bind (jf_M_farOf s12.2.1 s12.2.2) fun q23 => some (Sum.inl (s12.1 + q23.1, s12.2.1 + 1, q23.2)))) 5000 (0, 0, q11))) 5000 ((-4), 0, 0, Z)) else (some ((-2), Z))) else (some ((-1), Z))
set_option maxRecDepth 20000 in
theorem jw_M_all {X : Option (List Int32)} {D : Nat} {Q : Option Value → mm_H → Prop} (a1 : Int) (Z : dz_Z) (H : dz_p (jf_M_all a1 Z) (fun q => Q (some (dz_I q.1)) (hz_0 q.2))) : mm_Wp X (D + 6) mm_r175 0 [some (.ref 114), some (dz_I a1), none, none, none, none, none, none] [] (hz_0 Z) Q := by
  unfold jf_M_all at H
  refine wp_s (i := .iload_n 1) (n := 1) (pc' := 1) (st' := [dz_I a1]) rfl rfl ?_
  refine wq_3 (i := .i2l) (v' := dz_J (dz_c a1)) (pc' := 2) rfl rfl (oq_i2l' rfl) rfl ?_
  refine wp_s (i := .lconst 0) (n := 1) (pc' := 3) (st' := [dz_J 0, dz_J (dz_c a1)]) rfl rfl ?_
  refine wp_s (i := .lconst 1) (n := 1) (pc' := 4) (st' := [dz_J 1, dz_J 0, dz_J (dz_c a1)]) rfl rfl ?_
  refine wq_cs (Dq := (D + 5)) (r' := mm_r120) (as0 := [dz_J (dz_c a1), dz_J 0, dz_J 1]) (rest := []) (ls' := [some (dz_J (dz_c a1)), none, some (dz_J 0), none, some (dz_J 1), none]) (pc' := 7) rfl rfl (by decide) rfl rfl rfl rfl rfl ?_
  refine jw_in (a' := dz_c a1) (b' := 0) (c' := 1) (dz_lc _) (by decide) (by decide) ?_
  show mm_Wp X (D + 6) mm_r175 7 [some (.ref 114), some (dz_I a1), none, none, none, none, none, none] [dz_B (decide (0 ≤ dz_c a1 ∧ dz_c a1 ≤ 1))] (hz_0 Z) Q
  refine wq_if (p := 0 ≤ dz_c a1 ∧ dz_c a1 ≤ 1) (tt := 12) (pc' := 10) rfl rfl (cd_ne) rfl (fun c1 => ?_) (fun c1 => ?_)
  · replace H := dz_it c1 H
    refine wp_s (i := .aload_n 0) (n := 1) (pc' := 13) (st' := [.ref 114]) rfl rfl ?_
    refine wq_gi (idx := 173) (pc' := 16) rfl rfl ho_M rfl rfl ?_
    refine wq_if (p := dz_c (Z 114 4 0) ≠ 0) (tt := 22) (pc' := 19) rfl rfl (cz_ne rfl) rfl (fun c2 => ?_) (fun c2 => ?_)
    · replace H := dz_it c2 H
      refine wp_s (i := .aload_n 0) (n := 1) (pc' := 23) (st' := [.ref 114]) rfl rfl ?_
      refine wq_cv (Dq := (D + 5)) (r' := mm_r147) (as0 := []) (rest := []) (ls' := [some (.ref 114), none, none]) (pc' := 26) rfl rfl rfl rfl ho_M rfl rfl rfl ?_
      refine jw_M_settingsNow (X := X) (D := D + 5) Z (dz_pm (dz_bi H) (fun q3 H => ?_))
      show mm_Wp X (D + 6) mm_r175 26 [some (.ref 114), some (dz_I a1), none, none, none, none, none, none] [dz_I q3] (hz_0 Z) Q
      refine wq_st (k := 2) (i := .istore_n 2) (n := 1) (ls' := [some (.ref 114), some (dz_I a1), some (dz_I q3), none, none, none, none, none]) (pc' := 27) rfl rfl rfl rfl rfl ?_
      refine wp_s (i := .bipush (-4)) (n := 2) (pc' := 29) (st' := [dz_I (-4)]) rfl rfl ?_
      refine wq_st (k := 3) (i := .istore_n 3) (n := 1) (ls' := [some (.ref 114), some (dz_I a1), some (dz_I q3), some (dz_I (-4)), none, none, none, none]) (pc' := 30) rfl rfl rfl rfl rfl ?_
      refine wp_s (i := .iconst 0) (n := 1) (pc' := 31) (st' := [dz_I 0]) rfl rfl ?_
      refine wq_st (k := 4) (i := .istore 4) (n := 2) (ls' := [some (.ref 114), some (dz_I a1), some (dz_I q3), some (dz_I (-4)), some (dz_I 0), none, none, none]) (pc' := 33) rfl rfl rfl rfl rfl ?_
      refine wp_s (i := .iconst 0) (n := 1) (pc' := 34) (st' := [dz_I 0]) rfl rfl ?_
      refine wq_st (k := 5) (i := .istore 5) (n := 2) (ls' := [some (.ref 114), some (dz_I a1), some (dz_I q3), some (dz_I (-4)), some (dz_I 0), some (dz_I 0), none, none]) (pc' := 36) rfl rfl rfl rfl rfl ?_
      refine dz_lpi (P := fun (s4 : Int × Int × Int × dz_Z) => ∀ (u5 u6 : Option Int32), mm_Wp X (D + 6) mm_r175 36 [some (.ref 114), some (dz_I a1), some (dz_I q3), some (dz_I s4.1), some (dz_I s4.2.1), some (dz_I s4.2.2.1), Option.map Value.int u5, Option.map Value.int u6] [] (hz_0 s4.2.2.2) Q) (fun s4 H => ?_) 5000 ((-4), 0, 0, Z) H none none
      intro u5 u6
      refine wp_s (i := .iload 5) (n := 2) (pc' := 38) (st' := [dz_I s4.2.2.1]) rfl rfl ?_
      refine wp_s (i := .aload_n 0) (n := 1) (pc' := 39) (st' := [.ref 114, dz_I s4.2.2.1]) rfl rfl ?_
      refine wq_cv (Dq := (D + 5)) (r' := mm_r146) (as0 := []) (rest := [dz_I s4.2.2.1]) (ls' := [some (.ref 114), none, none]) (pc' := 42) rfl rfl rfl rfl ho_M rfl rfl rfl ?_
      refine jw_M_settingMany (X := X) (D := D + 5) s4.2.2.2 (dz_pm (dz_bi H) (fun q7 H => ?_))
      show mm_Wp X (D + 6) mm_r175 42 [some (.ref 114), some (dz_I a1), some (dz_I q3), some (dz_I s4.1), some (dz_I s4.2.1), some (dz_I s4.2.2.1), Option.map Value.int u5, Option.map Value.int u6] [dz_I q7, dz_I s4.2.2.1] (hz_0 s4.2.2.2) Q
      refine wq_ic (p := dz_c q7 ≤ dz_c s4.2.2.1) (tt := 135) (pc' := 45) rfl rfl (cq_ge rfl rfl) rfl (fun c8 => ?_) (fun c8 => ?_)
      · replace H := dz_it c8 H
        refine wp_s (i := .aload_n 0) (n := 1) (pc' := 136) (st' := [.ref 114]) rfl rfl ?_
        refine wp_s (i := .iload_n 2) (n := 1) (pc' := 137) (st' := [dz_I q3, .ref 114]) rfl rfl ?_
        refine wq_cv (Dq := (D + 5)) (r' := mm_r148) (as0 := [dz_I q3]) (rest := []) (ls' := [some (.ref 114), some (dz_I q3), none, none]) (pc' := 140) rfl rfl rfl rfl ho_M rfl rfl rfl ?_
        refine jw_M_sets (X := X) (D := D + 5) q3 s4.2.2.2 (dz_pm (dz_bi H) (fun q9 H => ?_))
        show mm_Wp X (D + 6) mm_r175 140 [some (.ref 114), some (dz_I a1), some (dz_I q3), some (dz_I s4.1), some (dz_I s4.2.1), some (dz_I s4.2.2.1), Option.map Value.int u5, Option.map Value.int u6] [] (hz_0 q9) Q
        refine wp_s (i := .iload_n 1) (n := 1) (pc' := 141) (st' := [dz_I a1]) rfl rfl ?_
        refine wq_if (p := dz_c a1 ≠ 0) (tt := 148) (pc' := 144) rfl rfl (cz_ne rfl) rfl (fun c10 => ?_) (fun c10 => ?_)
        · replace H := dz_it c10 H
          refine wp_s (i := .iload 4) (n := 2) (pc' := 150) (st' := [dz_I s4.2.1]) rfl rfl ?_
          refine wq_ri rfl rfl ?_
          replace H := dz_out H
          replace H := dz_sm H
          exact H
        · replace H := dz_if c10 H
          refine wp_s (i := .iload_n 3) (n := 1) (pc' := 145) (st' := [dz_I s4.1]) rfl rfl ?_
          refine wp_s (i := .goto 5) (n := 3) (pc' := 150) (st' := [dz_I s4.1]) rfl rfl ?_
          refine wq_ri rfl rfl ?_
          replace H := dz_out H
          replace H := dz_sm H
          exact H
      · replace H := dz_if c8 H
        refine wp_s (i := .aload_n 0) (n := 1) (pc' := 46) (st' := [.ref 114]) rfl rfl ?_
        refine wp_s (i := .iload 5) (n := 2) (pc' := 48) (st' := [dz_I s4.2.2.1, .ref 114]) rfl rfl ?_
        refine wq_cv (Dq := (D + 5)) (r' := mm_r148) (as0 := [dz_I s4.2.2.1]) (rest := []) (ls' := [some (.ref 114), some (dz_I s4.2.2.1), none, none]) (pc' := 51) rfl rfl rfl rfl ho_M rfl rfl rfl ?_
        refine jw_M_sets (X := X) (D := D + 5) s4.2.2.1 s4.2.2.2 (dz_pm (dz_bi H) (fun q11 H => ?_))
        show mm_Wp X (D + 6) mm_r175 51 [some (.ref 114), some (dz_I a1), some (dz_I q3), some (dz_I s4.1), some (dz_I s4.2.1), some (dz_I s4.2.2.1), Option.map Value.int u5, Option.map Value.int u6] [] (hz_0 q11) Q
        refine wp_s (i := .iconst 0) (n := 1) (pc' := 52) (st' := [dz_I 0]) rfl rfl ?_
        refine wq_st (k := 6) (i := .istore 6) (n := 2) (ls' := [some (.ref 114), some (dz_I a1), some (dz_I q3), some (dz_I s4.1), some (dz_I s4.2.1), some (dz_I s4.2.2.1), some (dz_I 0), Option.map Value.int u6]) (pc' := 54) rfl rfl rfl rfl rfl ?_
        refine wp_s (i := .iconst 0) (n := 1) (pc' := 55) (st' := [dz_I 0]) rfl rfl ?_
        refine wq_st (k := 7) (i := .istore 7) (n := 2) (ls' := [some (.ref 114), some (dz_I a1), some (dz_I q3), some (dz_I s4.1), some (dz_I s4.2.1), some (dz_I s4.2.2.1), some (dz_I 0), some (dz_I 0)]) (pc' := 57) rfl rfl rfl rfl rfl ?_
        refine dz_lpi (P := fun (s12 : Int × Int × dz_Z) => mm_Wp X (D + 6) mm_r175 57 [some (.ref 114), some (dz_I a1), some (dz_I q3), some (dz_I s4.1), some (dz_I s4.2.1), some (dz_I s4.2.2.1), some (dz_I s12.1), some (dz_I s12.2.1)] [] (hz_0 s12.2.2) Q) (fun s12 H => ?_) 5000 (0, 0, q11) H
        refine wp_s (i := .iload 7) (n := 2) (pc' := 59) (st' := [dz_I s12.2.1]) rfl rfl ?_
        refine wp_s (i := .aload_n 0) (n := 1) (pc' := 60) (st' := [.ref 114, dz_I s12.2.1]) rfl rfl ?_
        refine wq_gi (idx := 173) (pc' := 63) rfl rfl ho_M rfl rfl ?_
        refine wq_ic (p := dz_c (s12.2.2 114 4 0) ≤ dz_c s12.2.1) (tt := 83) (pc' := 66) rfl rfl (cq_ge rfl rfl) rfl (fun c13 => ?_) (fun c13 => ?_)
        · replace H := dz_it c13 H
          refine wp_s (i := .iload_n 3) (n := 1) (pc' := 84) (st' := [dz_I s4.1]) rfl rfl ?_
          refine wp_s (i := .bipush (-4)) (n := 2) (pc' := 86) (st' := [dz_I (-4), dz_I s4.1]) rfl rfl ?_
          refine dz_jn (P := fun (q16 : Int) => mm_Wp X (D + 6) mm_r175 101 [some (.ref 114), some (dz_I a1), some (dz_I q3), some (dz_I s4.1), some (dz_I s4.2.1), some (dz_I s4.2.2.1), some (dz_I s12.1), some (dz_I s12.2.1)] [dz_I q16] (hz_0 s12.2.2) Q) (dz_bi H) (fun q16 H => ?_) (fun H => ?_)
          · skip
            refine wq_st (k := 7) (i := .istore 7) (n := 2) (ls' := [some (.ref 114), some (dz_I a1), some (dz_I q3), some (dz_I s4.1), some (dz_I s4.2.1), some (dz_I s4.2.2.1), some (dz_I s12.1), some (dz_I q16)]) (pc' := 103) rfl rfl rfl rfl rfl ?_
            refine wp_s (i := .iload 7) (n := 2) (pc' := 105) (st' := [dz_I q16]) rfl rfl ?_
            refine dz_jn (P := fun (q18 : Int) => mm_Wp X (D + 6) mm_r175 114 [some (.ref 114), some (dz_I a1), some (dz_I q3), some (dz_I s4.1), some (dz_I s4.2.1), some (dz_I s4.2.2.1), some (dz_I s12.1), some (dz_I q16)] [dz_I q18] (hz_0 s12.2.2) Q) (dz_bi H) (fun q18 H => ?_) (fun H => ?_)
            · skip
              refine wq_st (k := 3) (i := .istore_n 3) (n := 1) (ls' := [some (.ref 114), some (dz_I a1), some (dz_I q3), some (dz_I q18), some (dz_I s4.2.1), some (dz_I s4.2.2.1), some (dz_I s12.1), some (dz_I q16)]) (pc' := 115) rfl rfl rfl rfl rfl ?_
              refine wp_s (i := .iload 7) (n := 2) (pc' := 117) (st' := [dz_I q16]) rfl rfl ?_
              refine wq_if (p := dz_c q16 = 0) (tt := 125) (pc' := 120) rfl rfl (cz_eq rfl) rfl (fun c19 => ?_) (fun c19 => ?_)
              · replace H := dz_it c19 H
                refine wp_s (i := .iload 4) (n := 2) (pc' := 127) (st' := [dz_I s4.2.1]) rfl rfl ?_
                refine wq_st (k := 4) (i := .istore 4) (n := 2) (ls' := [some (.ref 114), some (dz_I a1), some (dz_I q3), some (dz_I q18), some (dz_I s4.2.1), some (dz_I s4.2.2.1), some (dz_I s12.1), some (dz_I q16)]) (pc' := 129) rfl rfl rfl rfl rfl ?_
                refine wq_inc (k := 5) (d := 1) (x := s4.2.2.1) (ls' := [some (.ref 114), some (dz_I a1), some (dz_I q3), some (dz_I q18), some (dz_I s4.2.1), some (dz_I (s4.2.2.1 + 1)), some (dz_I s12.1), some (dz_I q16)]) (pc' := 132) rfl rfl rfl rfl ?_
                refine wp_s (i := .goto (-96)) (n := 3) (pc' := 36) (st' := []) rfl rfl ?_
                replace H := dz_out H
                replace H := dz_back H
                exact H (some (Int32.ofInt s12.1)) (some (Int32.ofInt q16))
              · replace H := dz_if c19 H
                refine wp_s (i := .iload 6) (n := 2) (pc' := 122) (st' := [dz_I s12.1]) rfl rfl ?_
                refine wp_s (i := .goto 5) (n := 3) (pc' := 127) (st' := [dz_I s12.1]) rfl rfl ?_
                refine wq_st (k := 4) (i := .istore 4) (n := 2) (ls' := [some (.ref 114), some (dz_I a1), some (dz_I q3), some (dz_I q18), some (dz_I s12.1), some (dz_I s4.2.2.1), some (dz_I s12.1), some (dz_I q16)]) (pc' := 129) rfl rfl rfl rfl rfl ?_
                refine wq_inc (k := 5) (d := 1) (x := s4.2.2.1) (ls' := [some (.ref 114), some (dz_I a1), some (dz_I q3), some (dz_I q18), some (dz_I s12.1), some (dz_I (s4.2.2.1 + 1)), some (dz_I s12.1), some (dz_I q16)]) (pc' := 132) rfl rfl rfl rfl ?_
                refine wp_s (i := .goto (-96)) (n := 3) (pc' := 36) (st' := []) rfl rfl ?_
                replace H := dz_out H
                replace H := dz_back H
                exact H (some (Int32.ofInt s12.1)) (some (Int32.ofInt q16))
            · skip
              refine wq_if (p := dz_c q16 = 0) (tt := 113) (pc' := 108) rfl rfl (cz_eq rfl) rfl (fun c20 => ?_) (fun c20 => ?_)
              · replace H := dz_it c20 H
                refine wp_s (i := .iload_n 3) (n := 1) (pc' := 114) (st' := [dz_I s4.1]) rfl rfl ?_
                replace H := dz_sm H
                exact H
              · replace H := dz_if c20 H
                refine wp_s (i := .iload 5) (n := 2) (pc' := 110) (st' := [dz_I s4.2.2.1]) rfl rfl ?_
                refine wp_s (i := .goto 4) (n := 3) (pc' := 114) (st' := [dz_I s4.2.2.1]) rfl rfl ?_
                replace H := dz_sm H
                exact H
          · skip
            refine wq_ic (p := dz_c s4.1 = (-4)) (tt := 96) (pc' := 89) rfl rfl (cq_eq rfl dk_m4) rfl (fun c21 => ?_) (fun c21 => ?_)
            · replace H := dz_it c21 H
              refine wp_s (i := .iconst 1) (n := 1) (pc' := 97) (st' := [dz_I 1]) rfl rfl ?_
              refine wp_s (i := .goto 4) (n := 3) (pc' := 101) (st' := [dz_I 1]) rfl rfl ?_
              replace H := dz_sm H
              exact H
            · replace H := dz_if c21 H
              refine wp_s (i := .iload 6) (n := 2) (pc' := 91) (st' := [dz_I s12.1]) rfl rfl ?_
              refine wp_s (i := .iload 4) (n := 2) (pc' := 93) (st' := [dz_I s4.2.1, dz_I s12.1]) rfl rfl ?_
              refine wq_ic (p := dz_c s4.2.1 ≤ dz_c s12.1) (tt := 100) (pc' := 96) rfl rfl (cq_ge rfl rfl) rfl (fun c22 => ?_) (fun c22 => ?_)
              · replace H := dz_it c22 H
                refine wp_s (i := .iconst 0) (n := 1) (pc' := 101) (st' := [dz_I 0]) rfl rfl ?_
                replace H := dz_sm H
                exact H
              · replace H := dz_if c22 H
                refine wp_s (i := .iconst 1) (n := 1) (pc' := 97) (st' := [dz_I 1]) rfl rfl ?_
                refine wp_s (i := .goto 4) (n := 3) (pc' := 101) (st' := [dz_I 1]) rfl rfl ?_
                replace H := dz_sm H
                exact H
        · replace H := dz_if c13 H
          refine wp_s (i := .iload 6) (n := 2) (pc' := 68) (st' := [dz_I s12.1]) rfl rfl ?_
          refine wp_s (i := .aload_n 0) (n := 1) (pc' := 69) (st' := [.ref 114, dz_I s12.1]) rfl rfl ?_
          refine wp_s (i := .iload 7) (n := 2) (pc' := 71) (st' := [dz_I s12.2.1, .ref 114, dz_I s12.1]) rfl rfl ?_
          refine wq_cv (Dq := (D + 5)) (r' := mm_r169) (as0 := [dz_I s12.2.1]) (rest := [dz_I s12.1]) (ls' := [some (.ref 114), some (dz_I s12.2.1), none, none, none, none]) (pc' := 74) rfl rfl rfl rfl ho_M rfl rfl rfl ?_
          refine jw_M_farOf (X := X) (D := D + 0) s12.2.1 s12.2.2 (dz_pm (dz_bi H) (fun q23 H => ?_))
          show mm_Wp X (D + 6) mm_r175 74 [some (.ref 114), some (dz_I a1), some (dz_I q3), some (dz_I s4.1), some (dz_I s4.2.1), some (dz_I s4.2.2.1), some (dz_I s12.1), some (dz_I s12.2.1)] [dz_I q23.1, dz_I s12.1] (hz_0 q23.2) Q
          refine wq_2 (i := .iadd) (z := s12.1 + q23.1) (pc' := 75) rfl rfl (op_add _ _) rfl ?_
          refine wq_st (k := 6) (i := .istore 6) (n := 2) (ls' := [some (.ref 114), some (dz_I a1), some (dz_I q3), some (dz_I s4.1), some (dz_I s4.2.1), some (dz_I s4.2.2.1), some (dz_I (s12.1 + q23.1)), some (dz_I s12.2.1)]) (pc' := 77) rfl rfl rfl rfl rfl ?_
          refine wq_inc (k := 7) (d := 1) (x := s12.2.1) (ls' := [some (.ref 114), some (dz_I a1), some (dz_I q3), some (dz_I s4.1), some (dz_I s4.2.1), some (dz_I s4.2.2.1), some (dz_I (s12.1 + q23.1)), some (dz_I (s12.2.1 + 1))]) (pc' := 80) rfl rfl rfl rfl ?_
          refine wp_s (i := .goto (-23)) (n := 3) (pc' := 57) (st' := []) rfl rfl ?_
          replace H := dz_back H
          exact H
    · replace H := dz_if c2 H
      refine wp_s (i := .bipush (-2)) (n := 2) (pc' := 21) (st' := [dz_I (-2)]) rfl rfl ?_
      refine wq_ri rfl rfl ?_
      replace H := dz_sm H
      exact H
  · replace H := dz_if c1 H
    refine wp_s (i := .iconst (-1)) (n := 1) (pc' := 11) (st' := [dz_I (-1)]) rfl rfl ?_
    refine wq_ri rfl rfl ?_
    replace H := dz_sm H
    exact H
-- 176
def jf_M_wakes (a1 : Int) (Z : dz_Z) : Option (Int × dz_Z) := Option.bind (jf_M_plays2 a1 Z) fun q1 => dz_lp (fun (s2 : Int × Int) => if dz_c (q1 114 5 0) ≤ dz_c s2.2 then (some (Sum.inr (s2.1, q1))) else (if 0 ≤ dz_c (3 * s2.2) ∧ dz_c (3 * s2.2) < 12 then dz_lp (fun (s6 : Int × Int) => if 0 ≤ dz_c ((3 * s2.2) + 1) ∧ dz_c ((3 * s2.2) + 1) < 12 then if dz_c (q1 114 10 (dz_c ((3 * s2.2) + 1))) < dz_c s6.2 then (some (Sum.inr (Sum.inl (s6.1, s2.2 + 1)))) else (Option.bind (jf_M_lengthOf a1 q1) fun q9 => if dz_c q9 ≤ dz_c s6.2 then (some (Sum.inr (Sum.inl (s6.1, s2.2 + 1)))) else (if 0 ≤ dz_c s6.2 ∧ dz_c s6.2 < 12 then if 0 ≤ dz_c ((3 * s2.2) + 2) ∧ dz_c ((3 * s2.2) + 2) < 12 then Option.bind (α := Int) (if dz_c (q1 114 36 (dz_c s6.2)) < dz_c (q1 114 10 (dz_c ((3 * s2.2) + 2))) then (some 0) else (some (dz_sl 1 s2.2))) (fun (q14 : Int) => some (Sum.inl (dz_or s6.1 q14, s6.2 + 1))) else none else none)) else none) 5000 (s2.1, q1 114 10 (dz_c (3 * s2.2))) else none)) 5000 (0, 0)
set_option maxRecDepth 20000 in
theorem jw_M_wakes {X : Option (List Int32)} {D : Nat} {Q : Option Value → mm_H → Prop} (a1 : Int) (Z : dz_Z) (H : dz_p (jf_M_wakes a1 Z) (fun q => Q (some (dz_I q.1)) (hz_0 q.2))) : mm_Wp X (D + 5) mm_r176 0 [some (.ref 114), some (dz_I a1), none, none, none] [] (hz_0 Z) Q := by
  unfold jf_M_wakes at H
  refine wp_s (i := .aload_n 0) (n := 1) (pc' := 1) (st' := [.ref 114]) rfl rfl ?_
  refine wp_s (i := .iload_n 1) (n := 1) (pc' := 2) (st' := [dz_I a1, .ref 114]) rfl rfl ?_
  refine wq_cv (Dq := (D + 4)) (r' := mm_r162) (as0 := [dz_I a1]) (rest := []) (ls' := [some (.ref 114), some (dz_I a1)]) (pc' := 5) rfl rfl rfl rfl ho_M rfl rfl rfl ?_
  refine jw_M_plays2 (X := X) (D := D + 0) a1 Z (dz_pm (dz_bi H) (fun q1 H => ?_))
  show mm_Wp X (D + 5) mm_r176 5 [some (.ref 114), some (dz_I a1), none, none, none] [] (hz_0 q1) Q
  refine wp_s (i := .iconst 0) (n := 1) (pc' := 6) (st' := [dz_I 0]) rfl rfl ?_
  refine wq_st (k := 2) (i := .istore_n 2) (n := 1) (ls' := [some (.ref 114), some (dz_I a1), some (dz_I 0), none, none]) (pc' := 7) rfl rfl rfl rfl rfl ?_
  refine wp_s (i := .iconst 0) (n := 1) (pc' := 8) (st' := [dz_I 0]) rfl rfl ?_
  refine wq_st (k := 3) (i := .istore_n 3) (n := 1) (ls' := [some (.ref 114), some (dz_I a1), some (dz_I 0), some (dz_I 0), none]) (pc' := 9) rfl rfl rfl rfl rfl ?_
  refine dz_lpi (P := fun (s2 : Int × Int) => ∀ (u3 : Option Int32), mm_Wp X (D + 5) mm_r176 9 [some (.ref 114), some (dz_I a1), some (dz_I s2.1), some (dz_I s2.2), Option.map Value.int u3] [] (hz_0 q1) Q) (fun s2 H => ?_) 5000 (0, 0) H none
  intro u3
  refine wp_s (i := .iload_n 3) (n := 1) (pc' := 10) (st' := [dz_I s2.2]) rfl rfl ?_
  refine wp_s (i := .aload_n 0) (n := 1) (pc' := 11) (st' := [.ref 114, dz_I s2.2]) rfl rfl ?_
  refine wq_gi (idx := 176) (pc' := 14) rfl rfl ho_M rfl rfl ?_
  refine wq_ic (p := dz_c (q1 114 5 0) ≤ dz_c s2.2) (tt := 94) (pc' := 17) rfl rfl (cq_ge rfl rfl) rfl (fun c4 => ?_) (fun c4 => ?_)
  · replace H := dz_it c4 H
    refine wp_s (i := .iload_n 2) (n := 1) (pc' := 95) (st' := [dz_I s2.1]) rfl rfl ?_
    refine wq_ri rfl rfl ?_
    replace H := dz_out H
    replace H := dz_sm H
    exact H
  · replace H := dz_if c4 H
    refine wp_s (i := .aload_n 0) (n := 1) (pc' := 18) (st' := [.ref 114]) rfl rfl ?_
    refine wq_gr (idx := 22) (a := 119) (pc' := 21) rfl rfl ho_M rfl rfl ?_
    refine wp_s (i := .iconst 3) (n := 1) (pc' := 22) (st' := [dz_I 3, .ref 119]) rfl rfl ?_
    refine wp_s (i := .iload_n 3) (n := 1) (pc' := 23) (st' := [dz_I s2.2, dz_I 3, .ref 119]) rfl rfl ?_
    refine wq_2 (i := .imul) (z := 3 * s2.2) (pc' := 24) rfl rfl (op_mul _ _) rfl ?_
    obtain ⟨k5, H⟩ := dz_ck H
    refine wq_ia (j' := dz_c (3 * s2.2)) (pc' := 25) rfl ha_M_10 rfl k5.1 k5.2 rfl ?_
    refine wq_st (k := 4) (i := .istore 4) (n := 2) (ls' := [some (.ref 114), some (dz_I a1), some (dz_I s2.1), some (dz_I s2.2), some (dz_I (q1 114 10 (dz_c (3 * s2.2))))]) (pc' := 27) rfl rfl rfl rfl rfl ?_
    refine dz_lpi (P := fun (s6 : Int × Int) => mm_Wp X (D + 5) mm_r176 27 [some (.ref 114), some (dz_I a1), some (dz_I s6.1), some (dz_I s2.2), some (dz_I s6.2)] [] (hz_0 q1) Q) (fun s6 H => ?_) 5000 (s2.1, q1 114 10 (dz_c (3 * s2.2))) H
    refine wp_s (i := .iload 4) (n := 2) (pc' := 29) (st' := [dz_I s6.2]) rfl rfl ?_
    refine wp_s (i := .aload_n 0) (n := 1) (pc' := 30) (st' := [.ref 114, dz_I s6.2]) rfl rfl ?_
    refine wq_gr (idx := 22) (a := 119) (pc' := 33) rfl rfl ho_M rfl rfl ?_
    refine wp_s (i := .iconst 3) (n := 1) (pc' := 34) (st' := [dz_I 3, .ref 119, dz_I s6.2]) rfl rfl ?_
    refine wp_s (i := .iload_n 3) (n := 1) (pc' := 35) (st' := [dz_I s2.2, dz_I 3, .ref 119, dz_I s6.2]) rfl rfl ?_
    refine wq_2 (i := .imul) (z := 3 * s2.2) (pc' := 36) rfl rfl (op_mul _ _) rfl ?_
    refine wp_s (i := .iconst 1) (n := 1) (pc' := 37) (st' := [dz_I 1, dz_I (3 * s2.2), .ref 119, dz_I s6.2]) rfl rfl ?_
    refine wq_2 (i := .iadd) (z := (3 * s2.2) + 1) (pc' := 38) rfl rfl (op_add _ _) rfl ?_
    obtain ⟨k7, H⟩ := dz_ck H
    refine wq_ia (j' := dz_c ((3 * s2.2) + 1)) (pc' := 39) rfl ha_M_10 rfl k7.1 k7.2 rfl ?_
    refine wq_ic (p := dz_c (q1 114 10 (dz_c ((3 * s2.2) + 1))) < dz_c s6.2) (tt := 88) (pc' := 42) rfl rfl (cq_gt rfl rfl) rfl (fun c8 => ?_) (fun c8 => ?_)
    · replace H := dz_it c8 H
      refine wq_inc (k := 3) (d := 1) (x := s2.2) (ls' := [some (.ref 114), some (dz_I a1), some (dz_I s6.1), some (dz_I (s2.2 + 1)), some (dz_I s6.2)]) (pc' := 91) rfl rfl rfl rfl ?_
      refine wp_s (i := .goto (-82)) (n := 3) (pc' := 9) (st' := []) rfl rfl ?_
      replace H := dz_out H
      replace H := dz_back H
      exact H (some (Int32.ofInt s6.2))
    · replace H := dz_if c8 H
      refine wp_s (i := .iload 4) (n := 2) (pc' := 44) (st' := [dz_I s6.2]) rfl rfl ?_
      refine wp_s (i := .aload_n 0) (n := 1) (pc' := 45) (st' := [.ref 114, dz_I s6.2]) rfl rfl ?_
      refine wp_s (i := .iload_n 1) (n := 1) (pc' := 46) (st' := [dz_I a1, .ref 114, dz_I s6.2]) rfl rfl ?_
      refine wq_cv (Dq := (D + 4)) (r' := mm_r160) (as0 := [dz_I a1]) (rest := [dz_I s6.2]) (ls' := [some (.ref 114), some (dz_I a1)]) (pc' := 49) rfl rfl rfl rfl ho_M rfl rfl rfl ?_
      refine jw_M_lengthOf (X := X) (D := D + 4) a1 q1 (dz_pm (dz_bi H) (fun q9 H => ?_))
      show mm_Wp X (D + 5) mm_r176 49 [some (.ref 114), some (dz_I a1), some (dz_I s6.1), some (dz_I s2.2), some (dz_I s6.2)] [dz_I q9, dz_I s6.2] (hz_0 q1) Q
      refine wq_ic (p := dz_c q9 ≤ dz_c s6.2) (tt := 88) (pc' := 52) rfl rfl (cq_ge rfl rfl) rfl (fun c10 => ?_) (fun c10 => ?_)
      · replace H := dz_it c10 H
        refine wq_inc (k := 3) (d := 1) (x := s2.2) (ls' := [some (.ref 114), some (dz_I a1), some (dz_I s6.1), some (dz_I (s2.2 + 1)), some (dz_I s6.2)]) (pc' := 91) rfl rfl rfl rfl ?_
        refine wp_s (i := .goto (-82)) (n := 3) (pc' := 9) (st' := []) rfl rfl ?_
        replace H := dz_out H
        replace H := dz_back H
        exact H (some (Int32.ofInt s6.2))
      · replace H := dz_if c10 H
        refine wp_s (i := .iload_n 2) (n := 1) (pc' := 53) (st' := [dz_I s6.1]) rfl rfl ?_
        refine wp_s (i := .aload_n 0) (n := 1) (pc' := 54) (st' := [.ref 114, dz_I s6.1]) rfl rfl ?_
        refine wq_gr (idx := 61) (a := 132) (pc' := 57) rfl rfl ho_M rfl rfl ?_
        refine wp_s (i := .iload 4) (n := 2) (pc' := 59) (st' := [dz_I s6.2, .ref 132, dz_I s6.1]) rfl rfl ?_
        obtain ⟨k11, H⟩ := dz_ck H
        refine wq_ia (j' := dz_c s6.2) (pc' := 60) rfl ha_M_36 rfl k11.1 k11.2 rfl ?_
        refine wp_s (i := .aload_n 0) (n := 1) (pc' := 61) (st' := [.ref 114, dz_I (q1 114 36 (dz_c s6.2)), dz_I s6.1]) rfl rfl ?_
        refine wq_gr (idx := 22) (a := 119) (pc' := 64) rfl rfl ho_M rfl rfl ?_
        refine wp_s (i := .iconst 3) (n := 1) (pc' := 65) (st' := [dz_I 3, .ref 119, dz_I (q1 114 36 (dz_c s6.2)), dz_I s6.1]) rfl rfl ?_
        refine wp_s (i := .iload_n 3) (n := 1) (pc' := 66) (st' := [dz_I s2.2, dz_I 3, .ref 119, dz_I (q1 114 36 (dz_c s6.2)), dz_I s6.1]) rfl rfl ?_
        refine wq_2 (i := .imul) (z := 3 * s2.2) (pc' := 67) rfl rfl (op_mul _ _) rfl ?_
        refine wp_s (i := .iconst 2) (n := 1) (pc' := 68) (st' := [dz_I 2, dz_I (3 * s2.2), .ref 119, dz_I (q1 114 36 (dz_c s6.2)), dz_I s6.1]) rfl rfl ?_
        refine wq_2 (i := .iadd) (z := (3 * s2.2) + 2) (pc' := 69) rfl rfl (op_add _ _) rfl ?_
        obtain ⟨k12, H⟩ := dz_ck H
        refine wq_ia (j' := dz_c ((3 * s2.2) + 2)) (pc' := 70) rfl ha_M_10 rfl k12.1 k12.2 rfl ?_
        refine dz_jn (P := fun (q14 : Int) => mm_Wp X (D + 5) mm_r176 80 [some (.ref 114), some (dz_I a1), some (dz_I s6.1), some (dz_I s2.2), some (dz_I s6.2)] [dz_I q14, dz_I s6.1] (hz_0 q1) Q) (dz_bi H) (fun q14 H => ?_) (fun H => ?_)
        · skip
          refine wq_2 (i := .ior) (z := dz_or s6.1 q14) (pc' := 81) rfl rfl (op_or _ _) rfl ?_
          refine wq_st (k := 2) (i := .istore_n 2) (n := 1) (ls' := [some (.ref 114), some (dz_I a1), some (dz_I (dz_or s6.1 q14)), some (dz_I s2.2), some (dz_I s6.2)]) (pc' := 82) rfl rfl rfl rfl rfl ?_
          refine wq_inc (k := 4) (d := 1) (x := s6.2) (ls' := [some (.ref 114), some (dz_I a1), some (dz_I (dz_or s6.1 q14)), some (dz_I s2.2), some (dz_I (s6.2 + 1))]) (pc' := 85) rfl rfl rfl rfl ?_
          refine wp_s (i := .goto (-58)) (n := 3) (pc' := 27) (st' := []) rfl rfl ?_
          replace H := dz_back H
          exact H
        · skip
          refine wq_ic (p := dz_c (q1 114 36 (dz_c s6.2)) < dz_c (q1 114 10 (dz_c ((3 * s2.2) + 2)))) (tt := 79) (pc' := 73) rfl rfl (cq_lt rfl rfl) rfl (fun c15 => ?_) (fun c15 => ?_)
          · replace H := dz_it c15 H
            refine wp_s (i := .iconst 0) (n := 1) (pc' := 80) (st' := [dz_I 0, dz_I s6.1]) rfl rfl ?_
            replace H := dz_sm H
            exact H
          · replace H := dz_if c15 H
            refine wp_s (i := .iconst 1) (n := 1) (pc' := 74) (st' := [dz_I 1, dz_I s6.1]) rfl rfl ?_
            refine wp_s (i := .iload_n 3) (n := 1) (pc' := 75) (st' := [dz_I s2.2, dz_I 1, dz_I s6.1]) rfl rfl ?_
            refine wq_2 (i := .ishl) (z := dz_sl 1 s2.2) (pc' := 76) rfl rfl (op_shl _ _) rfl ?_
            refine wp_s (i := .goto 4) (n := 3) (pc' := 80) (st' := [dz_I (dz_sl 1 s2.2), dz_I s6.1]) rfl rfl ?_
            replace H := dz_sm H
            exact H
-- 177
def jf_M_quiet (a1 : Int) (a2 : Int) (Z : dz_Z) : Option (Int × dz_Z) := Option.bind (jf_M_isShower a1 Z) fun q1 => if q1 = false then (some ((-1), Z)) else (if 0 ≤ dz_c a2 ∧ dz_c a2 ≤ 2 then (Option.bind (jf_M_settingsNow Z) fun q4 => dz_lp (fun (s5 : Int × Int × Int × Int × dz_Z) => Option.bind (jf_M_settingMany s5.2.2.2.2) fun q9 => if dz_c q9 ≤ dz_c s5.2.2.2.1 then (Option.bind (jf_M_sets q4 s5.2.2.2.2) fun q11 => if dz_c a2 ≠ 2 then (if dz_c s5.1 = (-4) then (some (Sum.inr (s5.1, q11))) else (if dz_c a2 ≠ 0 then (some (Sum.inr (s5.2.1, q11))) else (some (Sum.inr (s5.1, q11))))) else (some (Sum.inr (s5.2.2.1, q11)))) else (Option.bind (jf_M_sets s5.2.2.2.1 s5.2.2.2.2) fun q15 => Option.bind (jf_M_wakes a1 q15) fun q16 => Option.bind (α := Int) (if dz_c q16.1 ≠ 0 then (some 0) else (some 1)) (fun (q18 : Int) => Option.bind (jf_M_farOf a1 q16.2) fun q19 => Option.bind (α := Int) (if dz_c q18 = 0 then (some 0) else (if dz_c s5.1 = (-4) then (some 1) else (if dz_c s5.2.1 ≤ dz_c q19.1 then (some 0) else (some 1)))) (fun (q23 : Int) => Option.bind (α := Int) (if dz_c q23 = 0 then (some s5.1) else (some s5.2.2.2.1)) (fun (q25 : Int) => Option.bind (α := Int) (if dz_c q23 = 0 then (some s5.2.1) else (some q19.1)) (fun (q27 : Int) => Option.bind (α := Int) (if dz_c q18 = 0 then (some 0) else (some 1)) (fun (q29 : Int) => some (Sum.inl (q25, q27, s5.2.2.1 + q29, s5.2.2.2.1 + 1, q19.2))))))))) 5000 ((-4), 0, 0, 0, Z)) else (some ((-1), Z)))
set_option maxRecDepth 20000 in
theorem jw_M_quiet {X : Option (List Int32)} {D : Nat} {Q : Option Value → mm_H → Prop} (a1 : Int) (a2 : Int) (Z : dz_Z) (H : dz_p (jf_M_quiet a1 a2 Z) (fun q => Q (some (dz_I q.1)) (hz_0 q.2))) : mm_Wp X (D + 6) mm_r177 0 [some (.ref 114), some (dz_I a1), some (dz_I a2), none, none, none, none, none, none, none, none] [] (hz_0 Z) Q := by
  unfold jf_M_quiet at H
  refine wp_s (i := .aload_n 0) (n := 1) (pc' := 1) (st' := [.ref 114]) rfl rfl ?_
  refine wp_s (i := .iload_n 1) (n := 1) (pc' := 2) (st' := [dz_I a1, .ref 114]) rfl rfl ?_
  refine wq_cv (Dq := (D + 5)) (r' := mm_r140) (as0 := [dz_I a1]) (rest := []) (ls' := [some (.ref 114), some (dz_I a1)]) (pc' := 5) rfl rfl rfl rfl ho_M rfl rfl rfl ?_
  refine jw_M_isShower (X := X) (D := D + 4) a1 Z (dz_pm (dz_bi H) (fun q1 H => ?_))
  show mm_Wp X (D + 6) mm_r177 5 [some (.ref 114), some (dz_I a1), some (dz_I a2), none, none, none, none, none, none, none, none] [dz_B q1] (hz_0 Z) Q
  refine wq_if (p := q1 = false) (tt := 20) (pc' := 8) rfl rfl (cb_eq) rfl (fun c2 => ?_) (fun c2 => ?_)
  · replace H := dz_it c2 H
    refine wp_s (i := .iconst (-1)) (n := 1) (pc' := 21) (st' := [dz_I (-1)]) rfl rfl ?_
    refine wq_ri rfl rfl ?_
    replace H := dz_sm H
    exact H
  · replace H := dz_if c2 H
    refine wp_s (i := .iload_n 2) (n := 1) (pc' := 9) (st' := [dz_I a2]) rfl rfl ?_
    refine wq_3 (i := .i2l) (v' := dz_J (dz_c a2)) (pc' := 10) rfl rfl (oq_i2l' rfl) rfl ?_
    refine wp_s (i := .lconst 0) (n := 1) (pc' := 11) (st' := [dz_J 0, dz_J (dz_c a2)]) rfl rfl ?_
    refine wp_s (i := .ldc2_w 198) (n := 3) (pc' := 14) (st' := [dz_J 2, dz_J 0, dz_J (dz_c a2)]) rfl rfl ?_
    refine wq_cs (Dq := (D + 5)) (r' := mm_r120) (as0 := [dz_J (dz_c a2), dz_J 0, dz_J 2]) (rest := []) (ls' := [some (dz_J (dz_c a2)), none, some (dz_J 0), none, some (dz_J 2), none]) (pc' := 17) rfl rfl (by decide) rfl rfl rfl rfl rfl ?_
    refine jw_in (a' := dz_c a2) (b' := 0) (c' := 2) (dz_lc _) (by decide) (by decide) ?_
    show mm_Wp X (D + 6) mm_r177 17 [some (.ref 114), some (dz_I a1), some (dz_I a2), none, none, none, none, none, none, none, none] [dz_B (decide (0 ≤ dz_c a2 ∧ dz_c a2 ≤ 2))] (hz_0 Z) Q
    refine wq_if (p := 0 ≤ dz_c a2 ∧ dz_c a2 ≤ 2) (tt := 22) (pc' := 20) rfl rfl (cd_ne) rfl (fun c3 => ?_) (fun c3 => ?_)
    · replace H := dz_it c3 H
      refine wp_s (i := .aload_n 0) (n := 1) (pc' := 23) (st' := [.ref 114]) rfl rfl ?_
      refine wq_cv (Dq := (D + 5)) (r' := mm_r147) (as0 := []) (rest := []) (ls' := [some (.ref 114), none, none]) (pc' := 26) rfl rfl rfl rfl ho_M rfl rfl rfl ?_
      refine jw_M_settingsNow (X := X) (D := D + 5) Z (dz_pm (dz_bi H) (fun q4 H => ?_))
      show mm_Wp X (D + 6) mm_r177 26 [some (.ref 114), some (dz_I a1), some (dz_I a2), none, none, none, none, none, none, none, none] [dz_I q4] (hz_0 Z) Q
      refine wq_st (k := 3) (i := .istore_n 3) (n := 1) (ls' := [some (.ref 114), some (dz_I a1), some (dz_I a2), some (dz_I q4), none, none, none, none, none, none, none]) (pc' := 27) rfl rfl rfl rfl rfl ?_
      refine wp_s (i := .bipush (-4)) (n := 2) (pc' := 29) (st' := [dz_I (-4)]) rfl rfl ?_
      refine wq_st (k := 4) (i := .istore 4) (n := 2) (ls' := [some (.ref 114), some (dz_I a1), some (dz_I a2), some (dz_I q4), some (dz_I (-4)), none, none, none, none, none, none]) (pc' := 31) rfl rfl rfl rfl rfl ?_
      refine wp_s (i := .iconst 0) (n := 1) (pc' := 32) (st' := [dz_I 0]) rfl rfl ?_
      refine wq_st (k := 5) (i := .istore 5) (n := 2) (ls' := [some (.ref 114), some (dz_I a1), some (dz_I a2), some (dz_I q4), some (dz_I (-4)), some (dz_I 0), none, none, none, none, none]) (pc' := 34) rfl rfl rfl rfl rfl ?_
      refine wp_s (i := .iconst 0) (n := 1) (pc' := 35) (st' := [dz_I 0]) rfl rfl ?_
      refine wq_st (k := 6) (i := .istore 6) (n := 2) (ls' := [some (.ref 114), some (dz_I a1), some (dz_I a2), some (dz_I q4), some (dz_I (-4)), some (dz_I 0), some (dz_I 0), none, none, none, none]) (pc' := 37) rfl rfl rfl rfl rfl ?_
      refine wp_s (i := .iconst 0) (n := 1) (pc' := 38) (st' := [dz_I 0]) rfl rfl ?_
      refine wq_st (k := 7) (i := .istore 7) (n := 2) (ls' := [some (.ref 114), some (dz_I a1), some (dz_I a2), some (dz_I q4), some (dz_I (-4)), some (dz_I 0), some (dz_I 0), some (dz_I 0), none, none, none]) (pc' := 40) rfl rfl rfl rfl rfl ?_
      refine dz_lpi (P := fun (s5 : Int × Int × Int × Int × dz_Z) => ∀ (u6 u7 u8 : Option Int32), mm_Wp X (D + 6) mm_r177 40 [some (.ref 114), some (dz_I a1), some (dz_I a2), some (dz_I q4), some (dz_I s5.1), some (dz_I s5.2.1), some (dz_I s5.2.2.1), some (dz_I s5.2.2.2.1), Option.map Value.int u6, Option.map Value.int u7, Option.map Value.int u8] [] (hz_0 s5.2.2.2.2) Q) (fun s5 H => ?_) 5000 ((-4), 0, 0, 0, Z) H none none none
      intro u6 u7 u8
      refine wp_s (i := .iload 7) (n := 2) (pc' := 42) (st' := [dz_I s5.2.2.2.1]) rfl rfl ?_
      refine wp_s (i := .aload_n 0) (n := 1) (pc' := 43) (st' := [.ref 114, dz_I s5.2.2.2.1]) rfl rfl ?_
      refine wq_cv (Dq := (D + 5)) (r' := mm_r146) (as0 := []) (rest := [dz_I s5.2.2.2.1]) (ls' := [some (.ref 114), none, none]) (pc' := 46) rfl rfl rfl rfl ho_M rfl rfl rfl ?_
      refine jw_M_settingMany (X := X) (D := D + 5) s5.2.2.2.2 (dz_pm (dz_bi H) (fun q9 H => ?_))
      show mm_Wp X (D + 6) mm_r177 46 [some (.ref 114), some (dz_I a1), some (dz_I a2), some (dz_I q4), some (dz_I s5.1), some (dz_I s5.2.1), some (dz_I s5.2.2.1), some (dz_I s5.2.2.2.1), Option.map Value.int u6, Option.map Value.int u7, Option.map Value.int u8] [dz_I q9, dz_I s5.2.2.2.1] (hz_0 s5.2.2.2.2) Q
      refine wq_ic (p := dz_c q9 ≤ dz_c s5.2.2.2.1) (tt := 152) (pc' := 49) rfl rfl (cq_ge rfl rfl) rfl (fun c10 => ?_) (fun c10 => ?_)
      · replace H := dz_it c10 H
        refine wp_s (i := .aload_n 0) (n := 1) (pc' := 153) (st' := [.ref 114]) rfl rfl ?_
        refine wp_s (i := .iload_n 3) (n := 1) (pc' := 154) (st' := [dz_I q4, .ref 114]) rfl rfl ?_
        refine wq_cv (Dq := (D + 5)) (r' := mm_r148) (as0 := [dz_I q4]) (rest := []) (ls' := [some (.ref 114), some (dz_I q4), none, none]) (pc' := 157) rfl rfl rfl rfl ho_M rfl rfl rfl ?_
        refine jw_M_sets (X := X) (D := D + 5) q4 s5.2.2.2.2 (dz_pm (dz_bi H) (fun q11 H => ?_))
        show mm_Wp X (D + 6) mm_r177 157 [some (.ref 114), some (dz_I a1), some (dz_I a2), some (dz_I q4), some (dz_I s5.1), some (dz_I s5.2.1), some (dz_I s5.2.2.1), some (dz_I s5.2.2.2.1), Option.map Value.int u6, Option.map Value.int u7, Option.map Value.int u8] [] (hz_0 q11) Q
        refine wp_s (i := .iload_n 2) (n := 1) (pc' := 158) (st' := [dz_I a2]) rfl rfl ?_
        refine wp_s (i := .iconst 2) (n := 1) (pc' := 159) (st' := [dz_I 2, dz_I a2]) rfl rfl ?_
        refine wq_ic (p := dz_c a2 ≠ 2) (tt := 167) (pc' := 162) rfl rfl (cq_ne rfl dk_2) rfl (fun c12 => ?_) (fun c12 => ?_)
        · replace H := dz_it c12 H
          refine wp_s (i := .iload 4) (n := 2) (pc' := 169) (st' := [dz_I s5.1]) rfl rfl ?_
          refine wp_s (i := .bipush (-4)) (n := 2) (pc' := 171) (st' := [dz_I (-4), dz_I s5.1]) rfl rfl ?_
          refine wq_ic (p := dz_c s5.1 = (-4)) (tt := 178) (pc' := 174) rfl rfl (cq_eq rfl dk_m4) rfl (fun c13 => ?_) (fun c13 => ?_)
          · replace H := dz_it c13 H
            refine wp_s (i := .iload 4) (n := 2) (pc' := 180) (st' := [dz_I s5.1]) rfl rfl ?_
            refine wp_s (i := .goto 5) (n := 3) (pc' := 185) (st' := [dz_I s5.1]) rfl rfl ?_
            refine wq_ri rfl rfl ?_
            replace H := dz_out H
            replace H := dz_sm H
            exact H
          · replace H := dz_if c13 H
            refine wp_s (i := .iload_n 2) (n := 1) (pc' := 175) (st' := [dz_I a2]) rfl rfl ?_
            refine wq_if (p := dz_c a2 ≠ 0) (tt := 183) (pc' := 178) rfl rfl (cz_ne rfl) rfl (fun c14 => ?_) (fun c14 => ?_)
            · replace H := dz_it c14 H
              refine wp_s (i := .iload 5) (n := 2) (pc' := 185) (st' := [dz_I s5.2.1]) rfl rfl ?_
              refine wq_ri rfl rfl ?_
              replace H := dz_out H
              replace H := dz_sm H
              exact H
            · replace H := dz_if c14 H
              refine wp_s (i := .iload 4) (n := 2) (pc' := 180) (st' := [dz_I s5.1]) rfl rfl ?_
              refine wp_s (i := .goto 5) (n := 3) (pc' := 185) (st' := [dz_I s5.1]) rfl rfl ?_
              refine wq_ri rfl rfl ?_
              replace H := dz_out H
              replace H := dz_sm H
              exact H
        · replace H := dz_if c12 H
          refine wp_s (i := .iload 6) (n := 2) (pc' := 164) (st' := [dz_I s5.2.2.1]) rfl rfl ?_
          refine wp_s (i := .goto 21) (n := 3) (pc' := 185) (st' := [dz_I s5.2.2.1]) rfl rfl ?_
          refine wq_ri rfl rfl ?_
          replace H := dz_out H
          replace H := dz_sm H
          exact H
      · replace H := dz_if c10 H
        refine wp_s (i := .aload_n 0) (n := 1) (pc' := 50) (st' := [.ref 114]) rfl rfl ?_
        refine wp_s (i := .iload 7) (n := 2) (pc' := 52) (st' := [dz_I s5.2.2.2.1, .ref 114]) rfl rfl ?_
        refine wq_cv (Dq := (D + 5)) (r' := mm_r148) (as0 := [dz_I s5.2.2.2.1]) (rest := []) (ls' := [some (.ref 114), some (dz_I s5.2.2.2.1), none, none]) (pc' := 55) rfl rfl rfl rfl ho_M rfl rfl rfl ?_
        refine jw_M_sets (X := X) (D := D + 5) s5.2.2.2.1 s5.2.2.2.2 (dz_pm (dz_bi H) (fun q15 H => ?_))
        show mm_Wp X (D + 6) mm_r177 55 [some (.ref 114), some (dz_I a1), some (dz_I a2), some (dz_I q4), some (dz_I s5.1), some (dz_I s5.2.1), some (dz_I s5.2.2.1), some (dz_I s5.2.2.2.1), Option.map Value.int u6, Option.map Value.int u7, Option.map Value.int u8] [] (hz_0 q15) Q
        refine wp_s (i := .aload_n 0) (n := 1) (pc' := 56) (st' := [.ref 114]) rfl rfl ?_
        refine wp_s (i := .iload_n 1) (n := 1) (pc' := 57) (st' := [dz_I a1, .ref 114]) rfl rfl ?_
        refine wq_cv (Dq := (D + 5)) (r' := mm_r176) (as0 := [dz_I a1]) (rest := []) (ls' := [some (.ref 114), some (dz_I a1), none, none, none]) (pc' := 60) rfl rfl rfl rfl ho_M rfl rfl rfl ?_
        refine jw_M_wakes (X := X) (D := D + 0) a1 q15 (dz_pm (dz_bi H) (fun q16 H => ?_))
        show mm_Wp X (D + 6) mm_r177 60 [some (.ref 114), some (dz_I a1), some (dz_I a2), some (dz_I q4), some (dz_I s5.1), some (dz_I s5.2.1), some (dz_I s5.2.2.1), some (dz_I s5.2.2.2.1), Option.map Value.int u6, Option.map Value.int u7, Option.map Value.int u8] [dz_I q16.1] (hz_0 q16.2) Q
        refine dz_jn (P := fun (q18 : Int) => mm_Wp X (D + 6) mm_r177 68 [some (.ref 114), some (dz_I a1), some (dz_I a2), some (dz_I q4), some (dz_I s5.1), some (dz_I s5.2.1), some (dz_I s5.2.2.1), some (dz_I s5.2.2.2.1), Option.map Value.int u6, Option.map Value.int u7, Option.map Value.int u8] [dz_I q18] (hz_0 q16.2) Q) (dz_bi H) (fun q18 H => ?_) (fun H => ?_)
        · skip
          refine wq_st (k := 8) (i := .istore 8) (n := 2) (ls' := [some (.ref 114), some (dz_I a1), some (dz_I a2), some (dz_I q4), some (dz_I s5.1), some (dz_I s5.2.1), some (dz_I s5.2.2.1), some (dz_I s5.2.2.2.1), some (dz_I q18), Option.map Value.int u7, Option.map Value.int u8]) (pc' := 70) rfl rfl rfl rfl rfl ?_
          refine wp_s (i := .aload_n 0) (n := 1) (pc' := 71) (st' := [.ref 114]) rfl rfl ?_
          refine wp_s (i := .iload_n 1) (n := 1) (pc' := 72) (st' := [dz_I a1, .ref 114]) rfl rfl ?_
          refine wq_cv (Dq := (D + 5)) (r' := mm_r169) (as0 := [dz_I a1]) (rest := []) (ls' := [some (.ref 114), some (dz_I a1), none, none, none, none]) (pc' := 75) rfl rfl rfl rfl ho_M rfl rfl rfl ?_
          refine jw_M_farOf (X := X) (D := D + 0) a1 q16.2 (dz_pm (dz_bi H) (fun q19 H => ?_))
          show mm_Wp X (D + 6) mm_r177 75 [some (.ref 114), some (dz_I a1), some (dz_I a2), some (dz_I q4), some (dz_I s5.1), some (dz_I s5.2.1), some (dz_I s5.2.2.1), some (dz_I s5.2.2.2.1), some (dz_I q18), Option.map Value.int u7, Option.map Value.int u8] [dz_I q19.1] (hz_0 q19.2) Q
          refine wq_st (k := 9) (i := .istore 9) (n := 2) (ls' := [some (.ref 114), some (dz_I a1), some (dz_I a2), some (dz_I q4), some (dz_I s5.1), some (dz_I s5.2.1), some (dz_I s5.2.2.1), some (dz_I s5.2.2.2.1), some (dz_I q18), some (dz_I q19.1), Option.map Value.int u8]) (pc' := 77) rfl rfl rfl rfl rfl ?_
          refine wp_s (i := .iload 8) (n := 2) (pc' := 79) (st' := [dz_I q18]) rfl rfl ?_
          refine dz_jn (P := fun (q23 : Int) => mm_Wp X (D + 6) mm_r177 101 [some (.ref 114), some (dz_I a1), some (dz_I a2), some (dz_I q4), some (dz_I s5.1), some (dz_I s5.2.1), some (dz_I s5.2.2.1), some (dz_I s5.2.2.2.1), some (dz_I q18), some (dz_I q19.1), Option.map Value.int u8] [dz_I q23] (hz_0 q19.2) Q) (dz_bi H) (fun q23 H => ?_) (fun H => ?_)
          · skip
            refine wq_st (k := 10) (i := .istore 10) (n := 2) (ls' := [some (.ref 114), some (dz_I a1), some (dz_I a2), some (dz_I q4), some (dz_I s5.1), some (dz_I s5.2.1), some (dz_I s5.2.2.1), some (dz_I s5.2.2.2.1), some (dz_I q18), some (dz_I q19.1), some (dz_I q23)]) (pc' := 103) rfl rfl rfl rfl rfl ?_
            refine wp_s (i := .iload 10) (n := 2) (pc' := 105) (st' := [dz_I q23]) rfl rfl ?_
            refine dz_jn (P := fun (q25 : Int) => mm_Wp X (D + 6) mm_r177 115 [some (.ref 114), some (dz_I a1), some (dz_I a2), some (dz_I q4), some (dz_I s5.1), some (dz_I s5.2.1), some (dz_I s5.2.2.1), some (dz_I s5.2.2.2.1), some (dz_I q18), some (dz_I q19.1), some (dz_I q23)] [dz_I q25] (hz_0 q19.2) Q) (dz_bi H) (fun q25 H => ?_) (fun H => ?_)
            · skip
              refine wq_st (k := 4) (i := .istore 4) (n := 2) (ls' := [some (.ref 114), some (dz_I a1), some (dz_I a2), some (dz_I q4), some (dz_I q25), some (dz_I s5.2.1), some (dz_I s5.2.2.1), some (dz_I s5.2.2.2.1), some (dz_I q18), some (dz_I q19.1), some (dz_I q23)]) (pc' := 117) rfl rfl rfl rfl rfl ?_
              refine wp_s (i := .iload 10) (n := 2) (pc' := 119) (st' := [dz_I q23]) rfl rfl ?_
              refine dz_jn (P := fun (q27 : Int) => mm_Wp X (D + 6) mm_r177 129 [some (.ref 114), some (dz_I a1), some (dz_I a2), some (dz_I q4), some (dz_I q25), some (dz_I s5.2.1), some (dz_I s5.2.2.1), some (dz_I s5.2.2.2.1), some (dz_I q18), some (dz_I q19.1), some (dz_I q23)] [dz_I q27] (hz_0 q19.2) Q) (dz_bi H) (fun q27 H => ?_) (fun H => ?_)
              · skip
                refine wq_st (k := 5) (i := .istore 5) (n := 2) (ls' := [some (.ref 114), some (dz_I a1), some (dz_I a2), some (dz_I q4), some (dz_I q25), some (dz_I q27), some (dz_I s5.2.2.1), some (dz_I s5.2.2.2.1), some (dz_I q18), some (dz_I q19.1), some (dz_I q23)]) (pc' := 131) rfl rfl rfl rfl rfl ?_
                refine wp_s (i := .iload 6) (n := 2) (pc' := 133) (st' := [dz_I s5.2.2.1]) rfl rfl ?_
                refine wp_s (i := .iload 8) (n := 2) (pc' := 135) (st' := [dz_I q18, dz_I s5.2.2.1]) rfl rfl ?_
                refine dz_jn (P := fun (q29 : Int) => mm_Wp X (D + 6) mm_r177 143 [some (.ref 114), some (dz_I a1), some (dz_I a2), some (dz_I q4), some (dz_I q25), some (dz_I q27), some (dz_I s5.2.2.1), some (dz_I s5.2.2.2.1), some (dz_I q18), some (dz_I q19.1), some (dz_I q23)] [dz_I q29, dz_I s5.2.2.1] (hz_0 q19.2) Q) (dz_bi H) (fun q29 H => ?_) (fun H => ?_)
                · skip
                  refine wq_2 (i := .iadd) (z := s5.2.2.1 + q29) (pc' := 144) rfl rfl (op_add _ _) rfl ?_
                  refine wq_st (k := 6) (i := .istore 6) (n := 2) (ls' := [some (.ref 114), some (dz_I a1), some (dz_I a2), some (dz_I q4), some (dz_I q25), some (dz_I q27), some (dz_I (s5.2.2.1 + q29)), some (dz_I s5.2.2.2.1), some (dz_I q18), some (dz_I q19.1), some (dz_I q23)]) (pc' := 146) rfl rfl rfl rfl rfl ?_
                  refine wq_inc (k := 7) (d := 1) (x := s5.2.2.2.1) (ls' := [some (.ref 114), some (dz_I a1), some (dz_I a2), some (dz_I q4), some (dz_I q25), some (dz_I q27), some (dz_I (s5.2.2.1 + q29)), some (dz_I (s5.2.2.2.1 + 1)), some (dz_I q18), some (dz_I q19.1), some (dz_I q23)]) (pc' := 149) rfl rfl rfl rfl ?_
                  refine wp_s (i := .goto (-109)) (n := 3) (pc' := 40) (st' := []) rfl rfl ?_
                  replace H := dz_back H
                  exact H (some (Int32.ofInt q18)) (some (Int32.ofInt q19.1)) (some (Int32.ofInt q23))
                · skip
                  refine wq_if (p := dz_c q18 = 0) (tt := 142) (pc' := 138) rfl rfl (cz_eq rfl) rfl (fun c30 => ?_) (fun c30 => ?_)
                  · replace H := dz_it c30 H
                    refine wp_s (i := .iconst 0) (n := 1) (pc' := 143) (st' := [dz_I 0, dz_I s5.2.2.1]) rfl rfl ?_
                    replace H := dz_sm H
                    exact H
                  · replace H := dz_if c30 H
                    refine wp_s (i := .iconst 1) (n := 1) (pc' := 139) (st' := [dz_I 1, dz_I s5.2.2.1]) rfl rfl ?_
                    refine wp_s (i := .goto 4) (n := 3) (pc' := 143) (st' := [dz_I 1, dz_I s5.2.2.1]) rfl rfl ?_
                    replace H := dz_sm H
                    exact H
              · skip
                refine wq_if (p := dz_c q23 = 0) (tt := 127) (pc' := 122) rfl rfl (cz_eq rfl) rfl (fun c31 => ?_) (fun c31 => ?_)
                · replace H := dz_it c31 H
                  refine wp_s (i := .iload 5) (n := 2) (pc' := 129) (st' := [dz_I s5.2.1]) rfl rfl ?_
                  replace H := dz_sm H
                  exact H
                · replace H := dz_if c31 H
                  refine wp_s (i := .iload 9) (n := 2) (pc' := 124) (st' := [dz_I q19.1]) rfl rfl ?_
                  refine wp_s (i := .goto 5) (n := 3) (pc' := 129) (st' := [dz_I q19.1]) rfl rfl ?_
                  replace H := dz_sm H
                  exact H
            · skip
              refine wq_if (p := dz_c q23 = 0) (tt := 113) (pc' := 108) rfl rfl (cz_eq rfl) rfl (fun c32 => ?_) (fun c32 => ?_)
              · replace H := dz_it c32 H
                refine wp_s (i := .iload 4) (n := 2) (pc' := 115) (st' := [dz_I s5.1]) rfl rfl ?_
                replace H := dz_sm H
                exact H
              · replace H := dz_if c32 H
                refine wp_s (i := .iload 7) (n := 2) (pc' := 110) (st' := [dz_I s5.2.2.2.1]) rfl rfl ?_
                refine wp_s (i := .goto 5) (n := 3) (pc' := 115) (st' := [dz_I s5.2.2.2.1]) rfl rfl ?_
                replace H := dz_sm H
                exact H
          · skip
            refine wq_if (p := dz_c q18 = 0) (tt := 100) (pc' := 82) rfl rfl (cz_eq rfl) rfl (fun c33 => ?_) (fun c33 => ?_)
            · replace H := dz_it c33 H
              refine wp_s (i := .iconst 0) (n := 1) (pc' := 101) (st' := [dz_I 0]) rfl rfl ?_
              replace H := dz_sm H
              exact H
            · replace H := dz_if c33 H
              refine wp_s (i := .iload 4) (n := 2) (pc' := 84) (st' := [dz_I s5.1]) rfl rfl ?_
              refine wp_s (i := .bipush (-4)) (n := 2) (pc' := 86) (st' := [dz_I (-4), dz_I s5.1]) rfl rfl ?_
              refine wq_ic (p := dz_c s5.1 = (-4)) (tt := 96) (pc' := 89) rfl rfl (cq_eq rfl dk_m4) rfl (fun c34 => ?_) (fun c34 => ?_)
              · replace H := dz_it c34 H
                refine wp_s (i := .iconst 1) (n := 1) (pc' := 97) (st' := [dz_I 1]) rfl rfl ?_
                refine wp_s (i := .goto 4) (n := 3) (pc' := 101) (st' := [dz_I 1]) rfl rfl ?_
                replace H := dz_sm H
                exact H
              · replace H := dz_if c34 H
                refine wp_s (i := .iload 9) (n := 2) (pc' := 91) (st' := [dz_I q19.1]) rfl rfl ?_
                refine wp_s (i := .iload 5) (n := 2) (pc' := 93) (st' := [dz_I s5.2.1, dz_I q19.1]) rfl rfl ?_
                refine wq_ic (p := dz_c s5.2.1 ≤ dz_c q19.1) (tt := 100) (pc' := 96) rfl rfl (cq_ge rfl rfl) rfl (fun c35 => ?_) (fun c35 => ?_)
                · replace H := dz_it c35 H
                  refine wp_s (i := .iconst 0) (n := 1) (pc' := 101) (st' := [dz_I 0]) rfl rfl ?_
                  replace H := dz_sm H
                  exact H
                · replace H := dz_if c35 H
                  refine wp_s (i := .iconst 1) (n := 1) (pc' := 97) (st' := [dz_I 1]) rfl rfl ?_
                  refine wp_s (i := .goto 4) (n := 3) (pc' := 101) (st' := [dz_I 1]) rfl rfl ?_
                  replace H := dz_sm H
                  exact H
        · skip
          refine wq_if (p := dz_c q16.1 ≠ 0) (tt := 67) (pc' := 63) rfl rfl (cz_ne rfl) rfl (fun c36 => ?_) (fun c36 => ?_)
          · replace H := dz_it c36 H
            refine wp_s (i := .iconst 0) (n := 1) (pc' := 68) (st' := [dz_I 0]) rfl rfl ?_
            replace H := dz_sm H
            exact H
          · replace H := dz_if c36 H
            refine wp_s (i := .iconst 1) (n := 1) (pc' := 64) (st' := [dz_I 1]) rfl rfl ?_
            refine wp_s (i := .goto 4) (n := 3) (pc' := 68) (st' := [dz_I 1]) rfl rfl ?_
            replace H := dz_sm H
            exact H
    · replace H := dz_if c3 H
      refine wp_s (i := .iconst (-1)) (n := 1) (pc' := 21) (st' := [dz_I (-1)]) rfl rfl ?_
      refine wq_ri rfl rfl ?_
      replace H := dz_sm H
      exact H
-- 178
def jf_M_woken (a1 : Int) (Z : dz_Z) : Option (Int × dz_Z) := Option.bind (jf_M_isShower a1 Z) fun q1 => if q1 = false then (some ((-1), Z)) else (Option.bind (jf_M_wakes a1 Z) fun q3 => some (q3.1, q3.2))
set_option maxRecDepth 20000 in
theorem jw_M_woken {X : Option (List Int32)} {D : Nat} {Q : Option Value → mm_H → Prop} (a1 : Int) (Z : dz_Z) (H : dz_p (jf_M_woken a1 Z) (fun q => Q (some (dz_I q.1)) (hz_0 q.2))) : mm_Wp X (D + 6) mm_r178 0 [some (.ref 114), some (dz_I a1)] [] (hz_0 Z) Q := by
  unfold jf_M_woken at H
  refine wp_s (i := .aload_n 0) (n := 1) (pc' := 1) (st' := [.ref 114]) rfl rfl ?_
  refine wp_s (i := .iload_n 1) (n := 1) (pc' := 2) (st' := [dz_I a1, .ref 114]) rfl rfl ?_
  refine wq_cv (Dq := (D + 5)) (r' := mm_r140) (as0 := [dz_I a1]) (rest := []) (ls' := [some (.ref 114), some (dz_I a1)]) (pc' := 5) rfl rfl rfl rfl ho_M rfl rfl rfl ?_
  refine jw_M_isShower (X := X) (D := D + 4) a1 Z (dz_pm (dz_bi H) (fun q1 H => ?_))
  show mm_Wp X (D + 6) mm_r178 5 [some (.ref 114), some (dz_I a1)] [dz_B q1] (hz_0 Z) Q
  refine wq_if (p := q1 = false) (tt := 16) (pc' := 8) rfl rfl (cb_eq) rfl (fun c2 => ?_) (fun c2 => ?_)
  · replace H := dz_it c2 H
    refine wp_s (i := .iconst (-1)) (n := 1) (pc' := 17) (st' := [dz_I (-1)]) rfl rfl ?_
    refine wq_ri rfl rfl ?_
    replace H := dz_sm H
    exact H
  · replace H := dz_if c2 H
    refine wp_s (i := .aload_n 0) (n := 1) (pc' := 9) (st' := [.ref 114]) rfl rfl ?_
    refine wp_s (i := .iload_n 1) (n := 1) (pc' := 10) (st' := [dz_I a1, .ref 114]) rfl rfl ?_
    refine wq_cv (Dq := (D + 5)) (r' := mm_r176) (as0 := [dz_I a1]) (rest := []) (ls' := [some (.ref 114), some (dz_I a1), none, none, none]) (pc' := 13) rfl rfl rfl rfl ho_M rfl rfl rfl ?_
    refine jw_M_wakes (X := X) (D := D + 0) a1 Z (dz_pm (dz_bi H) (fun q3 H => ?_))
    show mm_Wp X (D + 6) mm_r178 13 [some (.ref 114), some (dz_I a1)] [dz_I q3.1] (hz_0 q3.2) Q
    refine wp_s (i := .goto 4) (n := 3) (pc' := 17) (st' := [dz_I q3.1]) rfl rfl ?_
    refine wq_ri rfl rfl ?_
    replace H := dz_sm H
    exact H
end mg_25m13
section mg_25m14
-- 179
def jf_M_heard (a1 : Int) (Z : dz_Z) : Option (Int × dz_Z) := if 0 ≤ dz_c a1 ∧ dz_c a1 ≤ 1 then (if 1 ≤ dz_c (Z 114 0 73) ∧ dz_c (Z 114 0 73) ≤ 5 then (dz_lp (fun (s3 : Int × Int × Int × dz_Z) => if dz_c (dz_sl 1 (2 * (Z 114 0 73))) ≤ dz_c s3.2.2.1 then (if dz_c a1 ≠ 0 then (some (Sum.inr (s3.2.1, s3.2.2.2))) else (some (Sum.inr (s3.1, s3.2.2.2)))) else (Option.bind (jf_M_dries 420 s3.2.2.2) fun q8 => dz_lp (fun (s9 : Int × Int × dz_Z) => if dz_c (Z 114 0 73) ≤ dz_c s9.2.1 then (Option.bind (α := Int) (if dz_c s9.1 = 0 then (some s3.2.1) else (if dz_c s3.2.1 ≠ (-4) then (some s3.2.1) else (some s3.2.2.1))) (fun (q13 : Int) => Option.bind (α := Int) (if dz_c s9.1 = 0 then (some 0) else (some 1)) (fun (q15 : Int) => some (Sum.inr (Sum.inl (s3.1 + q15, q13, s3.2.2.1 + 1, s9.2.2)))))) else (if dz_c s9.1 = 0 then (Option.bind (α := Int) (if dz_c s9.1 = 0 then (some s3.2.1) else (if dz_c s3.2.1 ≠ (-4) then (some s3.2.1) else (some s3.2.2.1))) (fun (q22 : Int) => Option.bind (α := Int) (if dz_c s9.1 = 0 then (some 0) else (some 1)) (fun (q24 : Int) => some (Sum.inr (Sum.inl (s3.1 + q24, q22, s3.2.2.1 + 1, s9.2.2)))))) else (Option.bind (jf_M_second 420 (dz_an (dz_sr s3.2.2.1 (2 * (((Z 114 0 73) - 1) - s9.2.1))) 3) s9.2.2) fun q28 => if 0 ≤ dz_c (74 + s9.2.1) ∧ dz_c (74 + s9.2.1) < 700 then if dz_c q28.1 ≠ dz_c (q28.2 114 0 (dz_c (74 + s9.2.1))) then (some (Sum.inl (0, s9.2.1 + 1, q28.2))) else (some (Sum.inl (1, s9.2.1 + 1, q28.2))) else none))) 5000 (1, 0, q8))) 5000 (0, (-4), 0, Z)) else (some ((-2), Z))) else (some ((-1), Z))
set_option maxRecDepth 20000 in
theorem jw_M_heard {X : Option (List Int32)} {D : Nat} {Q : Option Value → mm_H → Prop} (a1 : Int) (Z : dz_Z) (H : dz_p (jf_M_heard a1 Z) (fun q => Q (some (dz_I q.1)) (hz_0 q.2))) : mm_Wp X (D + 3) mm_r179 0 [some (.ref 114), some (dz_I a1), none, none, none, none, none, none] [] (hz_0 Z) Q := by
  unfold jf_M_heard at H
  refine wp_s (i := .iload_n 1) (n := 1) (pc' := 1) (st' := [dz_I a1]) rfl rfl ?_
  refine wq_3 (i := .i2l) (v' := dz_J (dz_c a1)) (pc' := 2) rfl rfl (oq_i2l' rfl) rfl ?_
  refine wp_s (i := .lconst 0) (n := 1) (pc' := 3) (st' := [dz_J 0, dz_J (dz_c a1)]) rfl rfl ?_
  refine wp_s (i := .lconst 1) (n := 1) (pc' := 4) (st' := [dz_J 1, dz_J 0, dz_J (dz_c a1)]) rfl rfl ?_
  refine wq_cs (Dq := (D + 2)) (r' := mm_r120) (as0 := [dz_J (dz_c a1), dz_J 0, dz_J 1]) (rest := []) (ls' := [some (dz_J (dz_c a1)), none, some (dz_J 0), none, some (dz_J 1), none]) (pc' := 7) rfl rfl (by decide) rfl rfl rfl rfl rfl ?_
  refine jw_in (a' := dz_c a1) (b' := 0) (c' := 1) (dz_lc _) (by decide) (by decide) ?_
  show mm_Wp X (D + 3) mm_r179 7 [some (.ref 114), some (dz_I a1), none, none, none, none, none, none] [dz_B (decide (0 ≤ dz_c a1 ∧ dz_c a1 ≤ 1))] (hz_0 Z) Q
  refine wq_if (p := 0 ≤ dz_c a1 ∧ dz_c a1 ≤ 1) (tt := 12) (pc' := 10) rfl rfl (cd_ne) rfl (fun c1 => ?_) (fun c1 => ?_)
  · replace H := dz_it c1 H
    refine wp_s (i := .aload_n 0) (n := 1) (pc' := 13) (st' := [.ref 114]) rfl rfl ?_
    refine wq_gr (idx := 7) (a := 115) (pc' := 16) rfl rfl ho_M rfl rfl ?_
    refine wp_s (i := .bipush 73) (n := 2) (pc' := 18) (st' := [dz_I 73, .ref 115]) rfl rfl ?_
    refine wq_ia (j' := 73) (pc' := 19) rfl ha_M_0 dk_73 (by decide) (by decide) rfl ?_
    refine wq_st (k := 2) (i := .istore_n 2) (n := 1) (ls' := [some (.ref 114), some (dz_I a1), some (dz_I (Z 114 0 73)), none, none, none, none, none]) (pc' := 20) rfl rfl rfl rfl rfl ?_
    refine wp_s (i := .iload_n 2) (n := 1) (pc' := 21) (st' := [dz_I (Z 114 0 73)]) rfl rfl ?_
    refine wq_3 (i := .i2l) (v' := dz_J (dz_c (Z 114 0 73))) (pc' := 22) rfl rfl (oq_i2l' rfl) rfl ?_
    refine wp_s (i := .lconst 1) (n := 1) (pc' := 23) (st' := [dz_J 1, dz_J (dz_c (Z 114 0 73))]) rfl rfl ?_
    refine wp_s (i := .ldc2_w 140) (n := 3) (pc' := 26) (st' := [dz_J 5, dz_J 1, dz_J (dz_c (Z 114 0 73))]) rfl rfl ?_
    refine wq_cs (Dq := (D + 2)) (r' := mm_r120) (as0 := [dz_J (dz_c (Z 114 0 73)), dz_J 1, dz_J 5]) (rest := []) (ls' := [some (dz_J (dz_c (Z 114 0 73))), none, some (dz_J 1), none, some (dz_J 5), none]) (pc' := 29) rfl rfl (by decide) rfl rfl rfl rfl rfl ?_
    refine jw_in (a' := dz_c (Z 114 0 73)) (b' := 1) (c' := 5) (dz_lc _) (by decide) (by decide) ?_
    show mm_Wp X (D + 3) mm_r179 29 [some (.ref 114), some (dz_I a1), some (dz_I (Z 114 0 73)), none, none, none, none, none] [dz_B (decide (1 ≤ dz_c (Z 114 0 73) ∧ dz_c (Z 114 0 73) ≤ 5))] (hz_0 Z) Q
    refine wq_if (p := 1 ≤ dz_c (Z 114 0 73) ∧ dz_c (Z 114 0 73) ≤ 5) (tt := 35) (pc' := 32) rfl rfl (cd_ne) rfl (fun c2 => ?_) (fun c2 => ?_)
    · replace H := dz_it c2 H
      refine wp_s (i := .iconst 0) (n := 1) (pc' := 36) (st' := [dz_I 0]) rfl rfl ?_
      refine wq_st (k := 3) (i := .istore_n 3) (n := 1) (ls' := [some (.ref 114), some (dz_I a1), some (dz_I (Z 114 0 73)), some (dz_I 0), none, none, none, none]) (pc' := 37) rfl rfl rfl rfl rfl ?_
      refine wp_s (i := .bipush (-4)) (n := 2) (pc' := 39) (st' := [dz_I (-4)]) rfl rfl ?_
      refine wq_st (k := 4) (i := .istore 4) (n := 2) (ls' := [some (.ref 114), some (dz_I a1), some (dz_I (Z 114 0 73)), some (dz_I 0), some (dz_I (-4)), none, none, none]) (pc' := 41) rfl rfl rfl rfl rfl ?_
      refine wp_s (i := .iconst 0) (n := 1) (pc' := 42) (st' := [dz_I 0]) rfl rfl ?_
      refine wq_st (k := 5) (i := .istore 5) (n := 2) (ls' := [some (.ref 114), some (dz_I a1), some (dz_I (Z 114 0 73)), some (dz_I 0), some (dz_I (-4)), some (dz_I 0), none, none]) (pc' := 44) rfl rfl rfl rfl rfl ?_
      refine dz_lpi (P := fun (s3 : Int × Int × Int × dz_Z) => ∀ (u4 u5 : Option Int32), mm_Wp X (D + 3) mm_r179 44 [some (.ref 114), some (dz_I a1), some (dz_I (Z 114 0 73)), some (dz_I s3.1), some (dz_I s3.2.1), some (dz_I s3.2.2.1), Option.map Value.int u4, Option.map Value.int u5] [] (hz_0 s3.2.2.2) Q) (fun s3 H => ?_) 5000 (0, (-4), 0, Z) H none none
      intro u4 u5
      refine wp_s (i := .iload 5) (n := 2) (pc' := 46) (st' := [dz_I s3.2.2.1]) rfl rfl ?_
      refine wp_s (i := .iconst 1) (n := 1) (pc' := 47) (st' := [dz_I 1, dz_I s3.2.2.1]) rfl rfl ?_
      refine wp_s (i := .iconst 2) (n := 1) (pc' := 48) (st' := [dz_I 2, dz_I 1, dz_I s3.2.2.1]) rfl rfl ?_
      refine wp_s (i := .iload_n 2) (n := 1) (pc' := 49) (st' := [dz_I (Z 114 0 73), dz_I 2, dz_I 1, dz_I s3.2.2.1]) rfl rfl ?_
      refine wq_2 (i := .imul) (z := 2 * (Z 114 0 73)) (pc' := 50) rfl rfl (op_mul _ _) rfl ?_
      refine wq_2 (i := .ishl) (z := dz_sl 1 (2 * (Z 114 0 73))) (pc' := 51) rfl rfl (op_shl _ _) rfl ?_
      refine wq_ic (p := dz_c (dz_sl 1 (2 * (Z 114 0 73))) ≤ dz_c s3.2.2.1) (tt := 164) (pc' := 54) rfl rfl (cq_ge rfl rfl) rfl (fun c6 => ?_) (fun c6 => ?_)
      · replace H := dz_it c6 H
        refine wp_s (i := .iload_n 1) (n := 1) (pc' := 165) (st' := [dz_I a1]) rfl rfl ?_
        refine wq_if (p := dz_c a1 ≠ 0) (tt := 172) (pc' := 168) rfl rfl (cz_ne rfl) rfl (fun c7 => ?_) (fun c7 => ?_)
        · replace H := dz_it c7 H
          refine wp_s (i := .iload 4) (n := 2) (pc' := 174) (st' := [dz_I s3.2.1]) rfl rfl ?_
          refine wq_ri rfl rfl ?_
          replace H := dz_out H
          replace H := dz_sm H
          exact H
        · replace H := dz_if c7 H
          refine wp_s (i := .iload_n 3) (n := 1) (pc' := 169) (st' := [dz_I s3.1]) rfl rfl ?_
          refine wp_s (i := .goto 5) (n := 3) (pc' := 174) (st' := [dz_I s3.1]) rfl rfl ?_
          refine wq_ri rfl rfl ?_
          replace H := dz_out H
          replace H := dz_sm H
          exact H
      · replace H := dz_if c6 H
        refine wp_s (i := .iconst 1) (n := 1) (pc' := 55) (st' := [dz_I 1]) rfl rfl ?_
        refine wq_st (k := 6) (i := .istore 6) (n := 2) (ls' := [some (.ref 114), some (dz_I a1), some (dz_I (Z 114 0 73)), some (dz_I s3.1), some (dz_I s3.2.1), some (dz_I s3.2.2.1), some (dz_I 1), Option.map Value.int u5]) (pc' := 57) rfl rfl rfl rfl rfl ?_
        refine wp_s (i := .aload_n 0) (n := 1) (pc' := 58) (st' := [.ref 114]) rfl rfl ?_
        refine wp_s (i := .sipush 420) (n := 3) (pc' := 61) (st' := [dz_I 420, .ref 114]) rfl rfl ?_
        refine wq_cv (Dq := (D + 2)) (r' := mm_r154) (as0 := [dz_I 420]) (rest := []) (ls' := [some (.ref 114), some (dz_I 420), none]) (pc' := 64) rfl rfl rfl rfl ho_M rfl rfl rfl ?_
        refine jw_M_dries (X := X) (D := D + 2) 420 s3.2.2.2 (dz_pm (dz_bi H) (fun q8 H => ?_))
        show mm_Wp X (D + 3) mm_r179 64 [some (.ref 114), some (dz_I a1), some (dz_I (Z 114 0 73)), some (dz_I s3.1), some (dz_I s3.2.1), some (dz_I s3.2.2.1), some (dz_I 1), Option.map Value.int u5] [] (hz_0 q8) Q
        refine wp_s (i := .iconst 0) (n := 1) (pc' := 65) (st' := [dz_I 0]) rfl rfl ?_
        refine wq_st (k := 7) (i := .istore 7) (n := 2) (ls' := [some (.ref 114), some (dz_I a1), some (dz_I (Z 114 0 73)), some (dz_I s3.1), some (dz_I s3.2.1), some (dz_I s3.2.2.1), some (dz_I 1), some (dz_I 0)]) (pc' := 67) rfl rfl rfl rfl rfl ?_
        refine dz_lpi (P := fun (s9 : Int × Int × dz_Z) => mm_Wp X (D + 3) mm_r179 67 [some (.ref 114), some (dz_I a1), some (dz_I (Z 114 0 73)), some (dz_I s3.1), some (dz_I s3.2.1), some (dz_I s3.2.2.1), some (dz_I s9.1), some (dz_I s9.2.1)] [] (hz_0 s9.2.2) Q) (fun s9 H => ?_) 5000 (1, 0, q8) H
        refine wp_s (i := .iload 7) (n := 2) (pc' := 69) (st' := [dz_I s9.2.1]) rfl rfl ?_
        refine wp_s (i := .iload_n 2) (n := 1) (pc' := 70) (st' := [dz_I (Z 114 0 73), dz_I s9.2.1]) rfl rfl ?_
        refine wq_ic (p := dz_c (Z 114 0 73) ≤ dz_c s9.2.1) (tt := 124) (pc' := 73) rfl rfl (cq_ge rfl rfl) rfl (fun c10 => ?_) (fun c10 => ?_)
        · replace H := dz_it c10 H
          refine wp_s (i := .iload 6) (n := 2) (pc' := 126) (st' := [dz_I s9.1]) rfl rfl ?_
          refine dz_jn (P := fun (q13 : Int) => mm_Wp X (D + 3) mm_r179 143 [some (.ref 114), some (dz_I a1), some (dz_I (Z 114 0 73)), some (dz_I s3.1), some (dz_I s3.2.1), some (dz_I s3.2.2.1), some (dz_I s9.1), some (dz_I s9.2.1)] [dz_I q13] (hz_0 s9.2.2) Q) (dz_bi H) (fun q13 H => ?_) (fun H => ?_)
          · skip
            refine wq_st (k := 4) (i := .istore 4) (n := 2) (ls' := [some (.ref 114), some (dz_I a1), some (dz_I (Z 114 0 73)), some (dz_I s3.1), some (dz_I q13), some (dz_I s3.2.2.1), some (dz_I s9.1), some (dz_I s9.2.1)]) (pc' := 145) rfl rfl rfl rfl rfl ?_
            refine wp_s (i := .iload_n 3) (n := 1) (pc' := 146) (st' := [dz_I s3.1]) rfl rfl ?_
            refine wp_s (i := .iload 6) (n := 2) (pc' := 148) (st' := [dz_I s9.1, dz_I s3.1]) rfl rfl ?_
            refine dz_jn (P := fun (q15 : Int) => mm_Wp X (D + 3) mm_r179 156 [some (.ref 114), some (dz_I a1), some (dz_I (Z 114 0 73)), some (dz_I s3.1), some (dz_I q13), some (dz_I s3.2.2.1), some (dz_I s9.1), some (dz_I s9.2.1)] [dz_I q15, dz_I s3.1] (hz_0 s9.2.2) Q) (dz_bi H) (fun q15 H => ?_) (fun H => ?_)
            · skip
              refine wq_2 (i := .iadd) (z := s3.1 + q15) (pc' := 157) rfl rfl (op_add _ _) rfl ?_
              refine wq_st (k := 3) (i := .istore_n 3) (n := 1) (ls' := [some (.ref 114), some (dz_I a1), some (dz_I (Z 114 0 73)), some (dz_I (s3.1 + q15)), some (dz_I q13), some (dz_I s3.2.2.1), some (dz_I s9.1), some (dz_I s9.2.1)]) (pc' := 158) rfl rfl rfl rfl rfl ?_
              refine wq_inc (k := 5) (d := 1) (x := s3.2.2.1) (ls' := [some (.ref 114), some (dz_I a1), some (dz_I (Z 114 0 73)), some (dz_I (s3.1 + q15)), some (dz_I q13), some (dz_I (s3.2.2.1 + 1)), some (dz_I s9.1), some (dz_I s9.2.1)]) (pc' := 161) rfl rfl rfl rfl ?_
              refine wp_s (i := .goto (-117)) (n := 3) (pc' := 44) (st' := []) rfl rfl ?_
              replace H := dz_out H
              replace H := dz_back H
              exact H (some (Int32.ofInt s9.1)) (some (Int32.ofInt s9.2.1))
            · skip
              refine wq_if (p := dz_c s9.1 = 0) (tt := 155) (pc' := 151) rfl rfl (cz_eq rfl) rfl (fun c16 => ?_) (fun c16 => ?_)
              · replace H := dz_it c16 H
                refine wp_s (i := .iconst 0) (n := 1) (pc' := 156) (st' := [dz_I 0, dz_I s3.1]) rfl rfl ?_
                replace H := dz_sm H
                exact H
              · replace H := dz_if c16 H
                refine wp_s (i := .iconst 1) (n := 1) (pc' := 152) (st' := [dz_I 1, dz_I s3.1]) rfl rfl ?_
                refine wp_s (i := .goto 4) (n := 3) (pc' := 156) (st' := [dz_I 1, dz_I s3.1]) rfl rfl ?_
                replace H := dz_sm H
                exact H
          · skip
            refine wq_if (p := dz_c s9.1 = 0) (tt := 141) (pc' := 129) rfl rfl (cz_eq rfl) rfl (fun c17 => ?_) (fun c17 => ?_)
            · replace H := dz_it c17 H
              refine wp_s (i := .iload 4) (n := 2) (pc' := 143) (st' := [dz_I s3.2.1]) rfl rfl ?_
              replace H := dz_sm H
              exact H
            · replace H := dz_if c17 H
              refine wp_s (i := .iload 4) (n := 2) (pc' := 131) (st' := [dz_I s3.2.1]) rfl rfl ?_
              refine wp_s (i := .bipush (-4)) (n := 2) (pc' := 133) (st' := [dz_I (-4), dz_I s3.2.1]) rfl rfl ?_
              refine wq_ic (p := dz_c s3.2.1 ≠ (-4)) (tt := 141) (pc' := 136) rfl rfl (cq_ne rfl dk_m4) rfl (fun c18 => ?_) (fun c18 => ?_)
              · replace H := dz_it c18 H
                refine wp_s (i := .iload 4) (n := 2) (pc' := 143) (st' := [dz_I s3.2.1]) rfl rfl ?_
                replace H := dz_sm H
                exact H
              · replace H := dz_if c18 H
                refine wp_s (i := .iload 5) (n := 2) (pc' := 138) (st' := [dz_I s3.2.2.1]) rfl rfl ?_
                refine wp_s (i := .goto 5) (n := 3) (pc' := 143) (st' := [dz_I s3.2.2.1]) rfl rfl ?_
                replace H := dz_sm H
                exact H
        · replace H := dz_if c10 H
          refine wp_s (i := .iload 6) (n := 2) (pc' := 75) (st' := [dz_I s9.1]) rfl rfl ?_
          refine wq_if (p := dz_c s9.1 = 0) (tt := 124) (pc' := 78) rfl rfl (cz_eq rfl) rfl (fun c19 => ?_) (fun c19 => ?_)
          · replace H := dz_it c19 H
            refine wp_s (i := .iload 6) (n := 2) (pc' := 126) (st' := [dz_I s9.1]) rfl rfl ?_
            refine dz_jn (P := fun (q22 : Int) => mm_Wp X (D + 3) mm_r179 143 [some (.ref 114), some (dz_I a1), some (dz_I (Z 114 0 73)), some (dz_I s3.1), some (dz_I s3.2.1), some (dz_I s3.2.2.1), some (dz_I s9.1), some (dz_I s9.2.1)] [dz_I q22] (hz_0 s9.2.2) Q) (dz_bi H) (fun q22 H => ?_) (fun H => ?_)
            · skip
              refine wq_st (k := 4) (i := .istore 4) (n := 2) (ls' := [some (.ref 114), some (dz_I a1), some (dz_I (Z 114 0 73)), some (dz_I s3.1), some (dz_I q22), some (dz_I s3.2.2.1), some (dz_I s9.1), some (dz_I s9.2.1)]) (pc' := 145) rfl rfl rfl rfl rfl ?_
              refine wp_s (i := .iload_n 3) (n := 1) (pc' := 146) (st' := [dz_I s3.1]) rfl rfl ?_
              refine wp_s (i := .iload 6) (n := 2) (pc' := 148) (st' := [dz_I s9.1, dz_I s3.1]) rfl rfl ?_
              refine dz_jn (P := fun (q24 : Int) => mm_Wp X (D + 3) mm_r179 156 [some (.ref 114), some (dz_I a1), some (dz_I (Z 114 0 73)), some (dz_I s3.1), some (dz_I q22), some (dz_I s3.2.2.1), some (dz_I s9.1), some (dz_I s9.2.1)] [dz_I q24, dz_I s3.1] (hz_0 s9.2.2) Q) (dz_bi H) (fun q24 H => ?_) (fun H => ?_)
              · skip
                refine wq_2 (i := .iadd) (z := s3.1 + q24) (pc' := 157) rfl rfl (op_add _ _) rfl ?_
                refine wq_st (k := 3) (i := .istore_n 3) (n := 1) (ls' := [some (.ref 114), some (dz_I a1), some (dz_I (Z 114 0 73)), some (dz_I (s3.1 + q24)), some (dz_I q22), some (dz_I s3.2.2.1), some (dz_I s9.1), some (dz_I s9.2.1)]) (pc' := 158) rfl rfl rfl rfl rfl ?_
                refine wq_inc (k := 5) (d := 1) (x := s3.2.2.1) (ls' := [some (.ref 114), some (dz_I a1), some (dz_I (Z 114 0 73)), some (dz_I (s3.1 + q24)), some (dz_I q22), some (dz_I (s3.2.2.1 + 1)), some (dz_I s9.1), some (dz_I s9.2.1)]) (pc' := 161) rfl rfl rfl rfl ?_
                refine wp_s (i := .goto (-117)) (n := 3) (pc' := 44) (st' := []) rfl rfl ?_
                replace H := dz_out H
                replace H := dz_back H
                exact H (some (Int32.ofInt s9.1)) (some (Int32.ofInt s9.2.1))
              · skip
                refine wq_if (p := dz_c s9.1 = 0) (tt := 155) (pc' := 151) rfl rfl (cz_eq rfl) rfl (fun c25 => ?_) (fun c25 => ?_)
                · replace H := dz_it c25 H
                  refine wp_s (i := .iconst 0) (n := 1) (pc' := 156) (st' := [dz_I 0, dz_I s3.1]) rfl rfl ?_
                  replace H := dz_sm H
                  exact H
                · replace H := dz_if c25 H
                  refine wp_s (i := .iconst 1) (n := 1) (pc' := 152) (st' := [dz_I 1, dz_I s3.1]) rfl rfl ?_
                  refine wp_s (i := .goto 4) (n := 3) (pc' := 156) (st' := [dz_I 1, dz_I s3.1]) rfl rfl ?_
                  replace H := dz_sm H
                  exact H
            · skip
              refine wq_if (p := dz_c s9.1 = 0) (tt := 141) (pc' := 129) rfl rfl (cz_eq rfl) rfl (fun c26 => ?_) (fun c26 => ?_)
              · replace H := dz_it c26 H
                refine wp_s (i := .iload 4) (n := 2) (pc' := 143) (st' := [dz_I s3.2.1]) rfl rfl ?_
                replace H := dz_sm H
                exact H
              · replace H := dz_if c26 H
                refine wp_s (i := .iload 4) (n := 2) (pc' := 131) (st' := [dz_I s3.2.1]) rfl rfl ?_
                refine wp_s (i := .bipush (-4)) (n := 2) (pc' := 133) (st' := [dz_I (-4), dz_I s3.2.1]) rfl rfl ?_
                refine wq_ic (p := dz_c s3.2.1 ≠ (-4)) (tt := 141) (pc' := 136) rfl rfl (cq_ne rfl dk_m4) rfl (fun c27 => ?_) (fun c27 => ?_)
                · replace H := dz_it c27 H
                  refine wp_s (i := .iload 4) (n := 2) (pc' := 143) (st' := [dz_I s3.2.1]) rfl rfl ?_
                  replace H := dz_sm H
                  exact H
                · replace H := dz_if c27 H
                  refine wp_s (i := .iload 5) (n := 2) (pc' := 138) (st' := [dz_I s3.2.2.1]) rfl rfl ?_
                  refine wp_s (i := .goto 5) (n := 3) (pc' := 143) (st' := [dz_I s3.2.2.1]) rfl rfl ?_
                  replace H := dz_sm H
                  exact H
          · replace H := dz_if c19 H
            refine wp_s (i := .aload_n 0) (n := 1) (pc' := 79) (st' := [.ref 114]) rfl rfl ?_
            refine wp_s (i := .sipush 420) (n := 3) (pc' := 82) (st' := [dz_I 420, .ref 114]) rfl rfl ?_
            refine wp_s (i := .iload 5) (n := 2) (pc' := 84) (st' := [dz_I s3.2.2.1, dz_I 420, .ref 114]) rfl rfl ?_
            refine wp_s (i := .iconst 2) (n := 1) (pc' := 85) (st' := [dz_I 2, dz_I s3.2.2.1, dz_I 420, .ref 114]) rfl rfl ?_
            refine wp_s (i := .iload_n 2) (n := 1) (pc' := 86) (st' := [dz_I (Z 114 0 73), dz_I 2, dz_I s3.2.2.1, dz_I 420, .ref 114]) rfl rfl ?_
            refine wp_s (i := .iconst 1) (n := 1) (pc' := 87) (st' := [dz_I 1, dz_I (Z 114 0 73), dz_I 2, dz_I s3.2.2.1, dz_I 420, .ref 114]) rfl rfl ?_
            refine wq_2 (i := .isub) (z := (Z 114 0 73) - 1) (pc' := 88) rfl rfl (op_sub _ _) rfl ?_
            refine wp_s (i := .iload 7) (n := 2) (pc' := 90) (st' := [dz_I s9.2.1, dz_I ((Z 114 0 73) - 1), dz_I 2, dz_I s3.2.2.1, dz_I 420, .ref 114]) rfl rfl ?_
            refine wq_2 (i := .isub) (z := ((Z 114 0 73) - 1) - s9.2.1) (pc' := 91) rfl rfl (op_sub _ _) rfl ?_
            refine wq_2 (i := .imul) (z := 2 * (((Z 114 0 73) - 1) - s9.2.1)) (pc' := 92) rfl rfl (op_mul _ _) rfl ?_
            refine wq_2 (i := .ishr) (z := dz_sr s3.2.2.1 (2 * (((Z 114 0 73) - 1) - s9.2.1))) (pc' := 93) rfl rfl (op_shr _ _) rfl ?_
            refine wp_s (i := .iconst 3) (n := 1) (pc' := 94) (st' := [dz_I 3, dz_I (dz_sr s3.2.2.1 (2 * (((Z 114 0 73) - 1) - s9.2.1))), dz_I 420, .ref 114]) rfl rfl ?_
            refine wq_2 (i := .iand) (z := dz_an (dz_sr s3.2.2.1 (2 * (((Z 114 0 73) - 1) - s9.2.1))) 3) (pc' := 95) rfl rfl (op_and _ _) rfl ?_
            refine wq_cv (Dq := (D + 2)) (r' := mm_r153) (as0 := [dz_I 420, dz_I (dz_an (dz_sr s3.2.2.1 (2 * (((Z 114 0 73) - 1) - s9.2.1))) 3)]) (rest := []) (ls' := [some (.ref 114), some (dz_I 420), some (dz_I (dz_an (dz_sr s3.2.2.1 (2 * (((Z 114 0 73) - 1) - s9.2.1))) 3)), none, none, none]) (pc' := 98) rfl rfl rfl rfl ho_M rfl rfl rfl ?_
            refine jw_M_second (X := X) (D := D + 0) 420 (dz_an (dz_sr s3.2.2.1 (2 * (((Z 114 0 73) - 1) - s9.2.1))) 3) s9.2.2 (dz_pm (dz_bi H) (fun q28 H => ?_))
            show mm_Wp X (D + 3) mm_r179 98 [some (.ref 114), some (dz_I a1), some (dz_I (Z 114 0 73)), some (dz_I s3.1), some (dz_I s3.2.1), some (dz_I s3.2.2.1), some (dz_I s9.1), some (dz_I s9.2.1)] [dz_I q28.1] (hz_0 q28.2) Q
            refine wp_s (i := .aload_n 0) (n := 1) (pc' := 99) (st' := [.ref 114, dz_I q28.1]) rfl rfl ?_
            refine wq_gr (idx := 7) (a := 115) (pc' := 102) rfl rfl ho_M rfl rfl ?_
            refine wp_s (i := .bipush 74) (n := 2) (pc' := 104) (st' := [dz_I 74, .ref 115, dz_I q28.1]) rfl rfl ?_
            refine wp_s (i := .iload 7) (n := 2) (pc' := 106) (st' := [dz_I s9.2.1, dz_I 74, .ref 115, dz_I q28.1]) rfl rfl ?_
            refine wq_2 (i := .iadd) (z := 74 + s9.2.1) (pc' := 107) rfl rfl (op_add _ _) rfl ?_
            obtain ⟨k29, H⟩ := dz_ck H
            refine wq_ia (j' := dz_c (74 + s9.2.1)) (pc' := 108) rfl ha_M_0 rfl k29.1 k29.2 rfl ?_
            refine wq_ic (p := dz_c q28.1 ≠ dz_c (q28.2 114 0 (dz_c (74 + s9.2.1)))) (tt := 115) (pc' := 111) rfl rfl (cq_ne rfl rfl) rfl (fun c30 => ?_) (fun c30 => ?_)
            · replace H := dz_it c30 H
              refine wp_s (i := .iconst 0) (n := 1) (pc' := 116) (st' := [dz_I 0]) rfl rfl ?_
              refine wq_st (k := 6) (i := .istore 6) (n := 2) (ls' := [some (.ref 114), some (dz_I a1), some (dz_I (Z 114 0 73)), some (dz_I s3.1), some (dz_I s3.2.1), some (dz_I s3.2.2.1), some (dz_I 0), some (dz_I s9.2.1)]) (pc' := 118) rfl rfl rfl rfl rfl ?_
              refine wq_inc (k := 7) (d := 1) (x := s9.2.1) (ls' := [some (.ref 114), some (dz_I a1), some (dz_I (Z 114 0 73)), some (dz_I s3.1), some (dz_I s3.2.1), some (dz_I s3.2.2.1), some (dz_I 0), some (dz_I (s9.2.1 + 1))]) (pc' := 121) rfl rfl rfl rfl ?_
              refine wp_s (i := .goto (-54)) (n := 3) (pc' := 67) (st' := []) rfl rfl ?_
              replace H := dz_back H
              exact H
            · replace H := dz_if c30 H
              refine wp_s (i := .iconst 1) (n := 1) (pc' := 112) (st' := [dz_I 1]) rfl rfl ?_
              refine wp_s (i := .goto 4) (n := 3) (pc' := 116) (st' := [dz_I 1]) rfl rfl ?_
              refine wq_st (k := 6) (i := .istore 6) (n := 2) (ls' := [some (.ref 114), some (dz_I a1), some (dz_I (Z 114 0 73)), some (dz_I s3.1), some (dz_I s3.2.1), some (dz_I s3.2.2.1), some (dz_I 1), some (dz_I s9.2.1)]) (pc' := 118) rfl rfl rfl rfl rfl ?_
              refine wq_inc (k := 7) (d := 1) (x := s9.2.1) (ls' := [some (.ref 114), some (dz_I a1), some (dz_I (Z 114 0 73)), some (dz_I s3.1), some (dz_I s3.2.1), some (dz_I s3.2.2.1), some (dz_I 1), some (dz_I (s9.2.1 + 1))]) (pc' := 121) rfl rfl rfl rfl ?_
              refine wp_s (i := .goto (-54)) (n := 3) (pc' := 67) (st' := []) rfl rfl ?_
              replace H := dz_back H
              exact H
    · replace H := dz_if c2 H
      refine wp_s (i := .bipush (-2)) (n := 2) (pc' := 34) (st' := [dz_I (-2)]) rfl rfl ?_
      refine wq_ri rfl rfl ?_
      replace H := dz_sm H
      exact H
  · replace H := dz_if c1 H
    refine wp_s (i := .iconst (-1)) (n := 1) (pc' := 11) (st' := [dz_I (-1)]) rfl rfl ?_
    refine wq_ri rfl rfl ?_
    replace H := dz_sm H
    exact H
-- 180
def jf_M_blocked (a1 : Int) (Z : dz_Z) : Option (Int × dz_Z) := Option.bind (jf_M_isShower a1 Z) fun q1 => if q1 = true then (Option.bind (jf_M_farOf a1 Z) fun q3 => Option.bind (α := Int) (if dz_c q3.1 ≠ 0 then (some 0) else (some 32)) (fun (q5 : Int) => dz_lp (fun (s6 : Int × Int × dz_Z) => if dz_c (s6.2.2 114 2 0) ≤ dz_c s6.2.1 then (some (Sum.inr (s6.1, s6.2.2))) else (if 0 ≤ dz_c (5 + s6.2.1) ∧ dz_c (5 + s6.2.1) < 700 then if dz_c (s6.2.2 114 0 (dz_c (5 + s6.2.1))) ≠ 0 then (some (Sum.inl (s6.1, s6.2.1 + 1, s6.2.2))) else (dz_a (dz_u s6.2.2 114 0 (dz_c (5 + s6.2.1)) 1) fun Z10 => Option.bind (jf_M_farOf a1 Z10) fun q11 => Option.bind (α := Int) (if dz_c q11.1 ≠ 0 then (some 0) else (some (dz_sl 1 s6.2.1))) (fun (q13 : Int) => dz_a (dz_u q11.2 114 0 (dz_c (5 + s6.2.1)) 0) fun Z14 => some (Sum.inl (dz_or s6.1 q13, s6.2.1 + 1, Z14)))) else none)) 5000 (q5, 0, q3.2))) else (some ((-1), Z))
set_option maxRecDepth 20000 in
theorem jw_M_blocked {X : Option (List Int32)} {D : Nat} {Q : Option Value → mm_H → Prop} (a1 : Int) (Z : dz_Z) (H : dz_p (jf_M_blocked a1 Z) (fun q => Q (some (dz_I q.1)) (hz_0 q.2))) : mm_Wp X (D + 6) mm_r180 0 [some (.ref 114), some (dz_I a1), none, none] [] (hz_0 Z) Q := by
  unfold jf_M_blocked at H
  refine wp_s (i := .aload_n 0) (n := 1) (pc' := 1) (st' := [.ref 114]) rfl rfl ?_
  refine wp_s (i := .iload_n 1) (n := 1) (pc' := 2) (st' := [dz_I a1, .ref 114]) rfl rfl ?_
  refine wq_cv (Dq := (D + 5)) (r' := mm_r140) (as0 := [dz_I a1]) (rest := []) (ls' := [some (.ref 114), some (dz_I a1)]) (pc' := 5) rfl rfl rfl rfl ho_M rfl rfl rfl ?_
  refine jw_M_isShower (X := X) (D := D + 4) a1 Z (dz_pm (dz_bi H) (fun q1 H => ?_))
  show mm_Wp X (D + 6) mm_r180 5 [some (.ref 114), some (dz_I a1), none, none] [dz_B q1] (hz_0 Z) Q
  refine wq_if (p := q1 = true) (tt := 10) (pc' := 8) rfl rfl (cb_ne) rfl (fun c2 => ?_) (fun c2 => ?_)
  · replace H := dz_it c2 H
    refine wp_s (i := .aload_n 0) (n := 1) (pc' := 11) (st' := [.ref 114]) rfl rfl ?_
    refine wp_s (i := .iload_n 1) (n := 1) (pc' := 12) (st' := [dz_I a1, .ref 114]) rfl rfl ?_
    refine wq_cv (Dq := (D + 5)) (r' := mm_r169) (as0 := [dz_I a1]) (rest := []) (ls' := [some (.ref 114), some (dz_I a1), none, none, none, none]) (pc' := 15) rfl rfl rfl rfl ho_M rfl rfl rfl ?_
    refine jw_M_farOf (X := X) (D := D + 0) a1 Z (dz_pm (dz_bi H) (fun q3 H => ?_))
    show mm_Wp X (D + 6) mm_r180 15 [some (.ref 114), some (dz_I a1), none, none] [dz_I q3.1] (hz_0 q3.2) Q
    refine dz_jn (P := fun (q5 : Int) => mm_Wp X (D + 6) mm_r180 24 [some (.ref 114), some (dz_I a1), none, none] [dz_I q5] (hz_0 q3.2) Q) (dz_bi H) (fun q5 H => ?_) (fun H => ?_)
    · skip
      refine wq_st (k := 2) (i := .istore_n 2) (n := 1) (ls' := [some (.ref 114), some (dz_I a1), some (dz_I q5), none]) (pc' := 25) rfl rfl rfl rfl rfl ?_
      refine wp_s (i := .iconst 0) (n := 1) (pc' := 26) (st' := [dz_I 0]) rfl rfl ?_
      refine wq_st (k := 3) (i := .istore_n 3) (n := 1) (ls' := [some (.ref 114), some (dz_I a1), some (dz_I q5), some (dz_I 0)]) (pc' := 27) rfl rfl rfl rfl rfl ?_
      refine dz_lpi (P := fun (s6 : Int × Int × dz_Z) => mm_Wp X (D + 6) mm_r180 27 [some (.ref 114), some (dz_I a1), some (dz_I s6.1), some (dz_I s6.2.1)] [] (hz_0 s6.2.2) Q) (fun s6 H => ?_) 5000 (q5, 0, q3.2) H
      refine wp_s (i := .iload_n 3) (n := 1) (pc' := 28) (st' := [dz_I s6.2.1]) rfl rfl ?_
      refine wp_s (i := .aload_n 0) (n := 1) (pc' := 29) (st' := [.ref 114, dz_I s6.2.1]) rfl rfl ?_
      refine wq_gi (idx := 167) (pc' := 32) rfl rfl ho_M rfl rfl ?_
      refine wq_ic (p := dz_c (s6.2.2 114 2 0) ≤ dz_c s6.2.1) (tt := 88) (pc' := 35) rfl rfl (cq_ge rfl rfl) rfl (fun c7 => ?_) (fun c7 => ?_)
      · replace H := dz_it c7 H
        refine wp_s (i := .iload_n 2) (n := 1) (pc' := 89) (st' := [dz_I s6.1]) rfl rfl ?_
        refine wq_ri rfl rfl ?_
        replace H := dz_out H
        replace H := dz_sm H
        exact H
      · replace H := dz_if c7 H
        refine wp_s (i := .aload_n 0) (n := 1) (pc' := 36) (st' := [.ref 114]) rfl rfl ?_
        refine wq_gr (idx := 7) (a := 115) (pc' := 39) rfl rfl ho_M rfl rfl ?_
        refine wp_s (i := .iconst 5) (n := 1) (pc' := 40) (st' := [dz_I 5, .ref 115]) rfl rfl ?_
        refine wp_s (i := .iload_n 3) (n := 1) (pc' := 41) (st' := [dz_I s6.2.1, dz_I 5, .ref 115]) rfl rfl ?_
        refine wq_2 (i := .iadd) (z := 5 + s6.2.1) (pc' := 42) rfl rfl (op_add _ _) rfl ?_
        obtain ⟨k8, H⟩ := dz_ck H
        refine wq_ia (j' := dz_c (5 + s6.2.1)) (pc' := 43) rfl ha_M_0 rfl k8.1 k8.2 rfl ?_
        refine wq_if (p := dz_c (s6.2.2 114 0 (dz_c (5 + s6.2.1))) ≠ 0) (tt := 82) (pc' := 46) rfl rfl (cz_ne rfl) rfl (fun c9 => ?_) (fun c9 => ?_)
        · replace H := dz_it c9 H
          refine wq_inc (k := 3) (d := 1) (x := s6.2.1) (ls' := [some (.ref 114), some (dz_I a1), some (dz_I s6.1), some (dz_I (s6.2.1 + 1))]) (pc' := 85) rfl rfl rfl rfl ?_
          refine wp_s (i := .goto (-58)) (n := 3) (pc' := 27) (st' := []) rfl rfl ?_
          replace H := dz_back H
          exact H
        · replace H := dz_if c9 H
          refine wp_s (i := .aload_n 0) (n := 1) (pc' := 47) (st' := [.ref 114]) rfl rfl ?_
          refine wq_gr (idx := 7) (a := 115) (pc' := 50) rfl rfl ho_M rfl rfl ?_
          refine wp_s (i := .iconst 5) (n := 1) (pc' := 51) (st' := [dz_I 5, .ref 115]) rfl rfl ?_
          refine wp_s (i := .iload_n 3) (n := 1) (pc' := 52) (st' := [dz_I s6.2.1, dz_I 5, .ref 115]) rfl rfl ?_
          refine wq_2 (i := .iadd) (z := 5 + s6.2.1) (pc' := 53) rfl rfl (op_add _ _) rfl ?_
          refine wp_s (i := .iconst 1) (n := 1) (pc' := 54) (st' := [dz_I 1, dz_I (5 + s6.2.1), .ref 115]) rfl rfl ?_
          refine wq_is (j' := dz_c (5 + s6.2.1)) (x := 1) (pc' := 55) rfl ha_M_0 rfl k8.1 k8.2 rfl (fun Z10 eZ10 => ?_)
          replace H := dz_le H Z10 eZ10
          clear eZ10
          refine wp_s (i := .iload_n 2) (n := 1) (pc' := 56) (st' := [dz_I s6.1]) rfl rfl ?_
          refine wp_s (i := .aload_n 0) (n := 1) (pc' := 57) (st' := [.ref 114, dz_I s6.1]) rfl rfl ?_
          refine wp_s (i := .iload_n 1) (n := 1) (pc' := 58) (st' := [dz_I a1, .ref 114, dz_I s6.1]) rfl rfl ?_
          refine wq_cv (Dq := (D + 5)) (r' := mm_r169) (as0 := [dz_I a1]) (rest := [dz_I s6.1]) (ls' := [some (.ref 114), some (dz_I a1), none, none, none, none]) (pc' := 61) rfl rfl rfl rfl ho_M rfl rfl rfl ?_
          refine jw_M_farOf (X := X) (D := D + 0) a1 Z10 (dz_pm (dz_bi H) (fun q11 H => ?_))
          show mm_Wp X (D + 6) mm_r180 61 [some (.ref 114), some (dz_I a1), some (dz_I s6.1), some (dz_I s6.2.1)] [dz_I q11.1, dz_I s6.1] (hz_0 q11.2) Q
          refine dz_jn (P := fun (q13 : Int) => mm_Wp X (D + 6) mm_r180 71 [some (.ref 114), some (dz_I a1), some (dz_I s6.1), some (dz_I s6.2.1)] [dz_I q13, dz_I s6.1] (hz_0 q11.2) Q) (dz_bi H) (fun q13 H => ?_) (fun H => ?_)
          · skip
            refine wq_2 (i := .ior) (z := dz_or s6.1 q13) (pc' := 72) rfl rfl (op_or _ _) rfl ?_
            refine wq_st (k := 2) (i := .istore_n 2) (n := 1) (ls' := [some (.ref 114), some (dz_I a1), some (dz_I (dz_or s6.1 q13)), some (dz_I s6.2.1)]) (pc' := 73) rfl rfl rfl rfl rfl ?_
            refine wp_s (i := .aload_n 0) (n := 1) (pc' := 74) (st' := [.ref 114]) rfl rfl ?_
            refine wq_gr (idx := 7) (a := 115) (pc' := 77) rfl rfl ho_M rfl rfl ?_
            refine wp_s (i := .iconst 5) (n := 1) (pc' := 78) (st' := [dz_I 5, .ref 115]) rfl rfl ?_
            refine wp_s (i := .iload_n 3) (n := 1) (pc' := 79) (st' := [dz_I s6.2.1, dz_I 5, .ref 115]) rfl rfl ?_
            refine wq_2 (i := .iadd) (z := 5 + s6.2.1) (pc' := 80) rfl rfl (op_add _ _) rfl ?_
            refine wp_s (i := .iconst 0) (n := 1) (pc' := 81) (st' := [dz_I 0, dz_I (5 + s6.2.1), .ref 115]) rfl rfl ?_
            refine wq_is (j' := dz_c (5 + s6.2.1)) (x := 0) (pc' := 82) rfl ha_M_0 rfl k8.1 k8.2 rfl (fun Z14 eZ14 => ?_)
            replace H := dz_le H Z14 eZ14
            clear eZ14
            refine wq_inc (k := 3) (d := 1) (x := s6.2.1) (ls' := [some (.ref 114), some (dz_I a1), some (dz_I (dz_or s6.1 q13)), some (dz_I (s6.2.1 + 1))]) (pc' := 85) rfl rfl rfl rfl ?_
            refine wp_s (i := .goto (-58)) (n := 3) (pc' := 27) (st' := []) rfl rfl ?_
            replace H := dz_back H
            exact H
          · skip
            refine wq_if (p := dz_c q11.1 ≠ 0) (tt := 70) (pc' := 64) rfl rfl (cz_ne rfl) rfl (fun c15 => ?_) (fun c15 => ?_)
            · replace H := dz_it c15 H
              refine wp_s (i := .iconst 0) (n := 1) (pc' := 71) (st' := [dz_I 0, dz_I s6.1]) rfl rfl ?_
              replace H := dz_sm H
              exact H
            · replace H := dz_if c15 H
              refine wp_s (i := .iconst 1) (n := 1) (pc' := 65) (st' := [dz_I 1, dz_I s6.1]) rfl rfl ?_
              refine wp_s (i := .iload_n 3) (n := 1) (pc' := 66) (st' := [dz_I s6.2.1, dz_I 1, dz_I s6.1]) rfl rfl ?_
              refine wq_2 (i := .ishl) (z := dz_sl 1 s6.2.1) (pc' := 67) rfl rfl (op_shl _ _) rfl ?_
              refine wp_s (i := .goto 4) (n := 3) (pc' := 71) (st' := [dz_I (dz_sl 1 s6.2.1), dz_I s6.1]) rfl rfl ?_
              replace H := dz_sm H
              exact H
    · skip
      refine wq_if (p := dz_c q3.1 ≠ 0) (tt := 23) (pc' := 18) rfl rfl (cz_ne rfl) rfl (fun c16 => ?_) (fun c16 => ?_)
      · replace H := dz_it c16 H
        refine wp_s (i := .iconst 0) (n := 1) (pc' := 24) (st' := [dz_I 0]) rfl rfl ?_
        replace H := dz_sm H
        exact H
      · replace H := dz_if c16 H
        refine wp_s (i := .bipush 32) (n := 2) (pc' := 20) (st' := [dz_I 32]) rfl rfl ?_
        refine wp_s (i := .goto 4) (n := 3) (pc' := 24) (st' := [dz_I 32]) rfl rfl ?_
        replace H := dz_sm H
        exact H
  · replace H := dz_if c2 H
    refine wp_s (i := .iconst (-1)) (n := 1) (pc' := 9) (st' := [dz_I (-1)]) rfl rfl ?_
    refine wq_ri rfl rfl ?_
    replace H := dz_sm H
    exact H
-- 181
def jf_M_frozen (a1 : Int) (Z : dz_Z) : Option (Int × dz_Z) := Option.bind (jf_M_isShower a1 Z) fun q1 => if q1 = true then (dz_lp (fun (s3 : Int × Int × dz_Z) => if dz_c (s3.2.2 114 3 0) ≤ dz_c s3.2.1 then (some (Sum.inr (s3.1, s3.2.2))) else (if 0 ≤ dz_c (10 + s3.2.1) ∧ dz_c (10 + s3.2.1) < 700 then if dz_c (s3.2.2 114 0 (dz_c (10 + s3.2.1))) = 5 then (some (Sum.inl (s3.1, s3.2.1 + 1, s3.2.2))) else (dz_a (dz_u s3.2.2 114 0 (dz_c (10 + s3.2.1)) 5) fun Z8 => Option.bind (jf_M_farOf a1 Z8) fun q9 => Option.bind (α := Int) (if dz_c q9.1 ≠ 0 then (some 0) else (some (dz_sl 1 s3.2.1))) (fun (q11 : Int) => dz_a (dz_u q9.2 114 0 (dz_c (10 + s3.2.1)) (s3.2.2 114 0 (dz_c (10 + s3.2.1)))) fun Z12 => some (Sum.inl (dz_or s3.1 q11, s3.2.1 + 1, Z12)))) else none)) 5000 (0, 0, Z)) else (some ((-1), Z))
set_option maxRecDepth 20000 in
theorem jw_M_frozen {X : Option (List Int32)} {D : Nat} {Q : Option Value → mm_H → Prop} (a1 : Int) (Z : dz_Z) (H : dz_p (jf_M_frozen a1 Z) (fun q => Q (some (dz_I q.1)) (hz_0 q.2))) : mm_Wp X (D + 6) mm_r181 0 [some (.ref 114), some (dz_I a1), none, none, none] [] (hz_0 Z) Q := by
  unfold jf_M_frozen at H
  refine wp_s (i := .aload_n 0) (n := 1) (pc' := 1) (st' := [.ref 114]) rfl rfl ?_
  refine wp_s (i := .iload_n 1) (n := 1) (pc' := 2) (st' := [dz_I a1, .ref 114]) rfl rfl ?_
  refine wq_cv (Dq := (D + 5)) (r' := mm_r140) (as0 := [dz_I a1]) (rest := []) (ls' := [some (.ref 114), some (dz_I a1)]) (pc' := 5) rfl rfl rfl rfl ho_M rfl rfl rfl ?_
  refine jw_M_isShower (X := X) (D := D + 4) a1 Z (dz_pm (dz_bi H) (fun q1 H => ?_))
  show mm_Wp X (D + 6) mm_r181 5 [some (.ref 114), some (dz_I a1), none, none, none] [dz_B q1] (hz_0 Z) Q
  refine wq_if (p := q1 = true) (tt := 10) (pc' := 8) rfl rfl (cb_ne) rfl (fun c2 => ?_) (fun c2 => ?_)
  · replace H := dz_it c2 H
    refine wp_s (i := .iconst 0) (n := 1) (pc' := 11) (st' := [dz_I 0]) rfl rfl ?_
    refine wq_st (k := 2) (i := .istore_n 2) (n := 1) (ls' := [some (.ref 114), some (dz_I a1), some (dz_I 0), none, none]) (pc' := 12) rfl rfl rfl rfl rfl ?_
    refine wp_s (i := .iconst 0) (n := 1) (pc' := 13) (st' := [dz_I 0]) rfl rfl ?_
    refine wq_st (k := 3) (i := .istore_n 3) (n := 1) (ls' := [some (.ref 114), some (dz_I a1), some (dz_I 0), some (dz_I 0), none]) (pc' := 14) rfl rfl rfl rfl rfl ?_
    refine dz_lpi (P := fun (s3 : Int × Int × dz_Z) => ∀ (u4 : Option Int32), mm_Wp X (D + 6) mm_r181 14 [some (.ref 114), some (dz_I a1), some (dz_I s3.1), some (dz_I s3.2.1), Option.map Value.int u4] [] (hz_0 s3.2.2) Q) (fun s3 H => ?_) 5000 (0, 0, Z) H none
    intro u4
    refine wp_s (i := .iload_n 3) (n := 1) (pc' := 15) (st' := [dz_I s3.2.1]) rfl rfl ?_
    refine wp_s (i := .aload_n 0) (n := 1) (pc' := 16) (st' := [.ref 114, dz_I s3.2.1]) rfl rfl ?_
    refine wq_gi (idx := 170) (pc' := 19) rfl rfl ho_M rfl rfl ?_
    refine wq_ic (p := dz_c (s3.2.2 114 3 0) ≤ dz_c s3.2.1) (tt := 84) (pc' := 22) rfl rfl (cq_ge rfl rfl) rfl (fun c5 => ?_) (fun c5 => ?_)
    · replace H := dz_it c5 H
      refine wp_s (i := .iload_n 2) (n := 1) (pc' := 85) (st' := [dz_I s3.1]) rfl rfl ?_
      refine wq_ri rfl rfl ?_
      replace H := dz_out H
      replace H := dz_sm H
      exact H
    · replace H := dz_if c5 H
      refine wp_s (i := .aload_n 0) (n := 1) (pc' := 23) (st' := [.ref 114]) rfl rfl ?_
      refine wq_gr (idx := 7) (a := 115) (pc' := 26) rfl rfl ho_M rfl rfl ?_
      refine wp_s (i := .bipush 10) (n := 2) (pc' := 28) (st' := [dz_I 10, .ref 115]) rfl rfl ?_
      refine wp_s (i := .iload_n 3) (n := 1) (pc' := 29) (st' := [dz_I s3.2.1, dz_I 10, .ref 115]) rfl rfl ?_
      refine wq_2 (i := .iadd) (z := 10 + s3.2.1) (pc' := 30) rfl rfl (op_add _ _) rfl ?_
      obtain ⟨k6, H⟩ := dz_ck H
      refine wq_ia (j' := dz_c (10 + s3.2.1)) (pc' := 31) rfl ha_M_0 rfl k6.1 k6.2 rfl ?_
      refine wq_st (k := 4) (i := .istore 4) (n := 2) (ls' := [some (.ref 114), some (dz_I a1), some (dz_I s3.1), some (dz_I s3.2.1), some (dz_I (s3.2.2 114 0 (dz_c (10 + s3.2.1))))]) (pc' := 33) rfl rfl rfl rfl rfl ?_
      refine wp_s (i := .iload 4) (n := 2) (pc' := 35) (st' := [dz_I (s3.2.2 114 0 (dz_c (10 + s3.2.1)))]) rfl rfl ?_
      refine wp_s (i := .iconst 5) (n := 1) (pc' := 36) (st' := [dz_I 5, dz_I (s3.2.2 114 0 (dz_c (10 + s3.2.1)))]) rfl rfl ?_
      refine wq_ic (p := dz_c (s3.2.2 114 0 (dz_c (10 + s3.2.1))) = 5) (tt := 78) (pc' := 39) rfl rfl (cq_eq rfl dk_5) rfl (fun c7 => ?_) (fun c7 => ?_)
      · replace H := dz_it c7 H
        refine wq_inc (k := 3) (d := 1) (x := s3.2.1) (ls' := [some (.ref 114), some (dz_I a1), some (dz_I s3.1), some (dz_I (s3.2.1 + 1)), some (dz_I (s3.2.2 114 0 (dz_c (10 + s3.2.1))))]) (pc' := 81) rfl rfl rfl rfl ?_
        refine wp_s (i := .goto (-67)) (n := 3) (pc' := 14) (st' := []) rfl rfl ?_
        replace H := dz_back H
        exact H (some (Int32.ofInt (s3.2.2 114 0 (dz_c (10 + s3.2.1)))))
      · replace H := dz_if c7 H
        refine wp_s (i := .aload_n 0) (n := 1) (pc' := 40) (st' := [.ref 114]) rfl rfl ?_
        refine wq_gr (idx := 7) (a := 115) (pc' := 43) rfl rfl ho_M rfl rfl ?_
        refine wp_s (i := .bipush 10) (n := 2) (pc' := 45) (st' := [dz_I 10, .ref 115]) rfl rfl ?_
        refine wp_s (i := .iload_n 3) (n := 1) (pc' := 46) (st' := [dz_I s3.2.1, dz_I 10, .ref 115]) rfl rfl ?_
        refine wq_2 (i := .iadd) (z := 10 + s3.2.1) (pc' := 47) rfl rfl (op_add _ _) rfl ?_
        refine wp_s (i := .iconst 5) (n := 1) (pc' := 48) (st' := [dz_I 5, dz_I (10 + s3.2.1), .ref 115]) rfl rfl ?_
        refine wq_is (j' := dz_c (10 + s3.2.1)) (x := 5) (pc' := 49) rfl ha_M_0 rfl k6.1 k6.2 rfl (fun Z8 eZ8 => ?_)
        replace H := dz_le H Z8 eZ8
        clear eZ8
        refine wp_s (i := .iload_n 2) (n := 1) (pc' := 50) (st' := [dz_I s3.1]) rfl rfl ?_
        refine wp_s (i := .aload_n 0) (n := 1) (pc' := 51) (st' := [.ref 114, dz_I s3.1]) rfl rfl ?_
        refine wp_s (i := .iload_n 1) (n := 1) (pc' := 52) (st' := [dz_I a1, .ref 114, dz_I s3.1]) rfl rfl ?_
        refine wq_cv (Dq := (D + 5)) (r' := mm_r169) (as0 := [dz_I a1]) (rest := [dz_I s3.1]) (ls' := [some (.ref 114), some (dz_I a1), none, none, none, none]) (pc' := 55) rfl rfl rfl rfl ho_M rfl rfl rfl ?_
        refine jw_M_farOf (X := X) (D := D + 0) a1 Z8 (dz_pm (dz_bi H) (fun q9 H => ?_))
        show mm_Wp X (D + 6) mm_r181 55 [some (.ref 114), some (dz_I a1), some (dz_I s3.1), some (dz_I s3.2.1), some (dz_I (s3.2.2 114 0 (dz_c (10 + s3.2.1))))] [dz_I q9.1, dz_I s3.1] (hz_0 q9.2) Q
        refine dz_jn (P := fun (q11 : Int) => mm_Wp X (D + 6) mm_r181 65 [some (.ref 114), some (dz_I a1), some (dz_I s3.1), some (dz_I s3.2.1), some (dz_I (s3.2.2 114 0 (dz_c (10 + s3.2.1))))] [dz_I q11, dz_I s3.1] (hz_0 q9.2) Q) (dz_bi H) (fun q11 H => ?_) (fun H => ?_)
        · skip
          refine wq_2 (i := .ior) (z := dz_or s3.1 q11) (pc' := 66) rfl rfl (op_or _ _) rfl ?_
          refine wq_st (k := 2) (i := .istore_n 2) (n := 1) (ls' := [some (.ref 114), some (dz_I a1), some (dz_I (dz_or s3.1 q11)), some (dz_I s3.2.1), some (dz_I (s3.2.2 114 0 (dz_c (10 + s3.2.1))))]) (pc' := 67) rfl rfl rfl rfl rfl ?_
          refine wp_s (i := .aload_n 0) (n := 1) (pc' := 68) (st' := [.ref 114]) rfl rfl ?_
          refine wq_gr (idx := 7) (a := 115) (pc' := 71) rfl rfl ho_M rfl rfl ?_
          refine wp_s (i := .bipush 10) (n := 2) (pc' := 73) (st' := [dz_I 10, .ref 115]) rfl rfl ?_
          refine wp_s (i := .iload_n 3) (n := 1) (pc' := 74) (st' := [dz_I s3.2.1, dz_I 10, .ref 115]) rfl rfl ?_
          refine wq_2 (i := .iadd) (z := 10 + s3.2.1) (pc' := 75) rfl rfl (op_add _ _) rfl ?_
          refine wp_s (i := .iload 4) (n := 2) (pc' := 77) (st' := [dz_I (s3.2.2 114 0 (dz_c (10 + s3.2.1))), dz_I (10 + s3.2.1), .ref 115]) rfl rfl ?_
          refine wq_is (j' := dz_c (10 + s3.2.1)) (x := s3.2.2 114 0 (dz_c (10 + s3.2.1))) (pc' := 78) rfl ha_M_0 rfl k6.1 k6.2 rfl (fun Z12 eZ12 => ?_)
          replace H := dz_le H Z12 eZ12
          clear eZ12
          refine wq_inc (k := 3) (d := 1) (x := s3.2.1) (ls' := [some (.ref 114), some (dz_I a1), some (dz_I (dz_or s3.1 q11)), some (dz_I (s3.2.1 + 1)), some (dz_I (s3.2.2 114 0 (dz_c (10 + s3.2.1))))]) (pc' := 81) rfl rfl rfl rfl ?_
          refine wp_s (i := .goto (-67)) (n := 3) (pc' := 14) (st' := []) rfl rfl ?_
          replace H := dz_back H
          exact H (some (Int32.ofInt (s3.2.2 114 0 (dz_c (10 + s3.2.1)))))
        · skip
          refine wq_if (p := dz_c q9.1 ≠ 0) (tt := 64) (pc' := 58) rfl rfl (cz_ne rfl) rfl (fun c13 => ?_) (fun c13 => ?_)
          · replace H := dz_it c13 H
            refine wp_s (i := .iconst 0) (n := 1) (pc' := 65) (st' := [dz_I 0, dz_I s3.1]) rfl rfl ?_
            replace H := dz_sm H
            exact H
          · replace H := dz_if c13 H
            refine wp_s (i := .iconst 1) (n := 1) (pc' := 59) (st' := [dz_I 1, dz_I s3.1]) rfl rfl ?_
            refine wp_s (i := .iload_n 3) (n := 1) (pc' := 60) (st' := [dz_I s3.2.1, dz_I 1, dz_I s3.1]) rfl rfl ?_
            refine wq_2 (i := .ishl) (z := dz_sl 1 s3.2.1) (pc' := 61) rfl rfl (op_shl _ _) rfl ?_
            refine wp_s (i := .goto 4) (n := 3) (pc' := 65) (st' := [dz_I (dz_sl 1 s3.2.1), dz_I s3.1]) rfl rfl ?_
            replace H := dz_sm H
            exact H
  · replace H := dz_if c2 H
    refine wp_s (i := .iconst (-1)) (n := 1) (pc' := 9) (st' := [dz_I (-1)]) rfl rfl ?_
    refine wq_ri rfl rfl ?_
    replace H := dz_sm H
    exact H
-- 182
def jf_M_lasts (a1 : Int) (a2 : Int) (Z : dz_Z) : Option (Int × dz_Z) := Option.bind (jf_M_isShower a1 Z) fun q1 => if q1 = false then (some ((-1), Z)) else (Option.bind (jf_M_isSpout a2 Z) fun q3 => if q3 = true then (Option.bind (jf_M_dries 420 Z) fun q5 => dz_lp (fun (s6 : Int × dz_Z) => if 99 < dz_c s6.1 then (some (Sum.inr ((-4), s6.2))) else (Option.bind (jf_M_showers a1 s6.2) fun q8 => if 0 ≤ dz_c (538 + a2) ∧ dz_c (538 + a2) < 700 then if dz_c (q8 114 0 (dz_c (538 + a2))) ≠ 1 then (some (Sum.inl (s6.1 + 1, q8))) else (some (Sum.inr (s6.1, q8))) else none)) 5000 (1, q5)) else (some ((-1), Z)))
set_option maxRecDepth 20000 in
theorem jw_M_lasts {X : Option (List Int32)} {D : Nat} {Q : Option Value → mm_H → Prop} (a1 : Int) (a2 : Int) (Z : dz_Z) (H : dz_p (jf_M_lasts a1 a2 Z) (fun q => Q (some (dz_I q.1)) (hz_0 q.2))) : mm_Wp X (D + 4) mm_r182 0 [some (.ref 114), some (dz_I a1), some (dz_I a2), none] [] (hz_0 Z) Q := by
  unfold jf_M_lasts at H
  refine wp_s (i := .aload_n 0) (n := 1) (pc' := 1) (st' := [.ref 114]) rfl rfl ?_
  refine wp_s (i := .iload_n 1) (n := 1) (pc' := 2) (st' := [dz_I a1, .ref 114]) rfl rfl ?_
  refine wq_cv (Dq := (D + 3)) (r' := mm_r140) (as0 := [dz_I a1]) (rest := []) (ls' := [some (.ref 114), some (dz_I a1)]) (pc' := 5) rfl rfl rfl rfl ho_M rfl rfl rfl ?_
  refine jw_M_isShower (X := X) (D := D + 2) a1 Z (dz_pm (dz_bi H) (fun q1 H => ?_))
  show mm_Wp X (D + 4) mm_r182 5 [some (.ref 114), some (dz_I a1), some (dz_I a2), none] [dz_B q1] (hz_0 Z) Q
  refine wq_if (p := q1 = false) (tt := 16) (pc' := 8) rfl rfl (cb_eq) rfl (fun c2 => ?_) (fun c2 => ?_)
  · replace H := dz_it c2 H
    refine wp_s (i := .iconst (-1)) (n := 1) (pc' := 17) (st' := [dz_I (-1)]) rfl rfl ?_
    refine wq_ri rfl rfl ?_
    replace H := dz_sm H
    exact H
  · replace H := dz_if c2 H
    refine wp_s (i := .aload_n 0) (n := 1) (pc' := 9) (st' := [.ref 114]) rfl rfl ?_
    refine wp_s (i := .iload_n 2) (n := 1) (pc' := 10) (st' := [dz_I a2, .ref 114]) rfl rfl ?_
    refine wq_cv (Dq := (D + 3)) (r' := mm_r139) (as0 := [dz_I a2]) (rest := []) (ls' := [some (.ref 114), some (dz_I a2)]) (pc' := 13) rfl rfl rfl rfl ho_M rfl rfl rfl ?_
    refine jw_M_isSpout (X := X) (D := D + 2) a2 Z (dz_pm (dz_bi H) (fun q3 H => ?_))
    show mm_Wp X (D + 4) mm_r182 13 [some (.ref 114), some (dz_I a1), some (dz_I a2), none] [dz_B q3] (hz_0 Z) Q
    refine wq_if (p := q3 = true) (tt := 18) (pc' := 16) rfl rfl (cb_ne) rfl (fun c4 => ?_) (fun c4 => ?_)
    · replace H := dz_it c4 H
      refine wp_s (i := .aload_n 0) (n := 1) (pc' := 19) (st' := [.ref 114]) rfl rfl ?_
      refine wp_s (i := .sipush 420) (n := 3) (pc' := 22) (st' := [dz_I 420, .ref 114]) rfl rfl ?_
      refine wq_cv (Dq := (D + 3)) (r' := mm_r154) (as0 := [dz_I 420]) (rest := []) (ls' := [some (.ref 114), some (dz_I 420), none]) (pc' := 25) rfl rfl rfl rfl ho_M rfl rfl rfl ?_
      refine jw_M_dries (X := X) (D := D + 3) 420 Z (dz_pm (dz_bi H) (fun q5 H => ?_))
      show mm_Wp X (D + 4) mm_r182 25 [some (.ref 114), some (dz_I a1), some (dz_I a2), none] [] (hz_0 q5) Q
      refine wp_s (i := .iconst 1) (n := 1) (pc' := 26) (st' := [dz_I 1]) rfl rfl ?_
      refine wq_st (k := 3) (i := .istore_n 3) (n := 1) (ls' := [some (.ref 114), some (dz_I a1), some (dz_I a2), some (dz_I 1)]) (pc' := 27) rfl rfl rfl rfl rfl ?_
      refine dz_lpi (P := fun (s6 : Int × dz_Z) => mm_Wp X (D + 4) mm_r182 27 [some (.ref 114), some (dz_I a1), some (dz_I a2), some (dz_I s6.1)] [] (hz_0 s6.2) Q) (fun s6 H => ?_) 5000 (1, q5) H
      refine wp_s (i := .iload_n 3) (n := 1) (pc' := 28) (st' := [dz_I s6.1]) rfl rfl ?_
      refine wp_s (i := .bipush 99) (n := 2) (pc' := 30) (st' := [dz_I 99, dz_I s6.1]) rfl rfl ?_
      refine wq_ic (p := 99 < dz_c s6.1) (tt := 60) (pc' := 33) rfl rfl (cq_gt rfl dk_99) rfl (fun c7 => ?_) (fun c7 => ?_)
      · replace H := dz_it c7 H
        refine wp_s (i := .bipush (-4)) (n := 2) (pc' := 62) (st' := [dz_I (-4)]) rfl rfl ?_
        refine wq_ri rfl rfl ?_
        replace H := dz_out H
        replace H := dz_sm H
        exact H
      · replace H := dz_if c7 H
        refine wp_s (i := .aload_n 0) (n := 1) (pc' := 34) (st' := [.ref 114]) rfl rfl ?_
        refine wp_s (i := .iload_n 1) (n := 1) (pc' := 35) (st' := [dz_I a1, .ref 114]) rfl rfl ?_
        refine wq_cv (Dq := (D + 3)) (r' := mm_r161) (as0 := [dz_I a1]) (rest := []) (ls' := [some (.ref 114), some (dz_I a1), none, none]) (pc' := 38) rfl rfl rfl rfl ho_M rfl rfl rfl ?_
        refine jw_M_showers (X := X) (D := D + 0) a1 s6.2 (dz_pm (dz_bi H) (fun q8 H => ?_))
        show mm_Wp X (D + 4) mm_r182 38 [some (.ref 114), some (dz_I a1), some (dz_I a2), some (dz_I s6.1)] [] (hz_0 q8) Q
        refine wp_s (i := .aload_n 0) (n := 1) (pc' := 39) (st' := [.ref 114]) rfl rfl ?_
        refine wq_gr (idx := 7) (a := 115) (pc' := 42) rfl rfl ho_M rfl rfl ?_
        refine wp_s (i := .sipush 538) (n := 3) (pc' := 45) (st' := [dz_I 538, .ref 115]) rfl rfl ?_
        refine wp_s (i := .iload_n 2) (n := 1) (pc' := 46) (st' := [dz_I a2, dz_I 538, .ref 115]) rfl rfl ?_
        refine wq_2 (i := .iadd) (z := 538 + a2) (pc' := 47) rfl rfl (op_add _ _) rfl ?_
        obtain ⟨k9, H⟩ := dz_ck H
        refine wq_ia (j' := dz_c (538 + a2)) (pc' := 48) rfl ha_M_0 rfl k9.1 k9.2 rfl ?_
        refine wp_s (i := .iconst 1) (n := 1) (pc' := 49) (st' := [dz_I 1, dz_I (q8 114 0 (dz_c (538 + a2)))]) rfl rfl ?_
        refine wq_ic (p := dz_c (q8 114 0 (dz_c (538 + a2))) ≠ 1) (tt := 54) (pc' := 52) rfl rfl (cq_ne rfl dk_1) rfl (fun c10 => ?_) (fun c10 => ?_)
        · replace H := dz_it c10 H
          refine wq_inc (k := 3) (d := 1) (x := s6.1) (ls' := [some (.ref 114), some (dz_I a1), some (dz_I a2), some (dz_I (s6.1 + 1))]) (pc' := 57) rfl rfl rfl rfl ?_
          refine wp_s (i := .goto (-30)) (n := 3) (pc' := 27) (st' := []) rfl rfl ?_
          replace H := dz_back H
          exact H
        · replace H := dz_if c10 H
          refine wp_s (i := .iload_n 3) (n := 1) (pc' := 53) (st' := [dz_I s6.1]) rfl rfl ?_
          refine wq_ri rfl rfl ?_
          replace H := dz_out H
          replace H := dz_sm H
          exact H
    · replace H := dz_if c4 H
      refine wp_s (i := .iconst (-1)) (n := 1) (pc' := 17) (st' := [dz_I (-1)]) rfl rfl ?_
      refine wq_ri rfl rfl ?_
      replace H := dz_sm H
      exact H
-- 183
def jf_M_draws (a1 : Int) (a2 : Int) (a3 : Int) (a4 : Int) (Z : dz_Z) : Option (Int × dz_Z) := Option.bind (jf_M_isShower a1 Z) fun q1 => if q1 = false then (some ((-1), Z)) else (if ¬(1 ≤ dz_c a2 ∧ dz_c a2 ≤ 12) then (some ((-1), Z)) else (if 1 ≤ dz_c a3 ∧ dz_c a3 ≤ 10 then (if 0 ≤ dz_c (34 + (13 * a1)) ∧ dz_c (34 + (13 * a1)) < 700 then dz_a (dz_u Z 114 0 (dz_c (34 + (13 * a1))) a2) fun Z6 => dz_lp (fun (s7 : Int × Int × Int × dz_Z) => if dz_c a2 ≤ dz_c s7.2.2.1 then (some (Sum.inr (s7.2.1, s7.2.2.2))) else (if dz_c a3 ≠ 0 then dz_a (Int.tmod (dz_c (dz_an (dz_sr ((s7.1 * 1103515245) + 12345) 16) 32767)) (dz_c a3)) fun x11 => if 0 ≤ dz_c (((34 + (13 * a1)) + 1) + s7.2.2.1) ∧ dz_c (((34 + (13 * a1)) + 1) + s7.2.2.1) < 700 then dz_a (dz_u s7.2.2.2 114 0 (dz_c (((34 + (13 * a1)) + 1) + s7.2.2.1)) x11) fun Z13 => some (Sum.inl ((s7.1 * 1103515245) + 12345, s7.2.1 + x11, s7.2.2.1 + 1, Z13)) else none else none)) 5000 (a4, 0, 0, Z6) else none) else (some ((-1), Z))))
set_option maxRecDepth 20000 in
theorem jw_M_draws {X : Option (List Int32)} {D : Nat} {Q : Option Value → mm_H → Prop} (a1 : Int) (a2 : Int) (a3 : Int) (a4 : Int) (Z : dz_Z) (H : dz_p (jf_M_draws a1 a2 a3 a4 Z) (fun q => Q (some (dz_I q.1)) (hz_0 q.2))) : mm_Wp X (D + 2) mm_r183 0 [some (.ref 114), some (dz_I a1), some (dz_I a2), some (dz_I a3), some (dz_I a4), none, none, none, none] [] (hz_0 Z) Q := by
  unfold jf_M_draws at H
  refine wp_s (i := .aload_n 0) (n := 1) (pc' := 1) (st' := [.ref 114]) rfl rfl ?_
  refine wp_s (i := .iload_n 1) (n := 1) (pc' := 2) (st' := [dz_I a1, .ref 114]) rfl rfl ?_
  refine wq_cv (Dq := (D + 1)) (r' := mm_r140) (as0 := [dz_I a1]) (rest := []) (ls' := [some (.ref 114), some (dz_I a1)]) (pc' := 5) rfl rfl rfl rfl ho_M rfl rfl rfl ?_
  refine jw_M_isShower (X := X) (D := D + 0) a1 Z (dz_pm (dz_bi H) (fun q1 H => ?_))
  show mm_Wp X (D + 2) mm_r183 5 [some (.ref 114), some (dz_I a1), some (dz_I a2), some (dz_I a3), some (dz_I a4), none, none, none, none] [dz_B q1] (hz_0 Z) Q
  refine wq_if (p := q1 = false) (tt := 32) (pc' := 8) rfl rfl (cb_eq) rfl (fun c2 => ?_) (fun c2 => ?_)
  · replace H := dz_it c2 H
    refine wp_s (i := .iconst (-1)) (n := 1) (pc' := 33) (st' := [dz_I (-1)]) rfl rfl ?_
    refine wq_ri rfl rfl ?_
    replace H := dz_sm H
    exact H
  · replace H := dz_if c2 H
    refine wp_s (i := .iload_n 2) (n := 1) (pc' := 9) (st' := [dz_I a2]) rfl rfl ?_
    refine wq_3 (i := .i2l) (v' := dz_J (dz_c a2)) (pc' := 10) rfl rfl (oq_i2l' rfl) rfl ?_
    refine wp_s (i := .lconst 1) (n := 1) (pc' := 11) (st' := [dz_J 1, dz_J (dz_c a2)]) rfl rfl ?_
    refine wp_s (i := .ldc2_w 277) (n := 3) (pc' := 14) (st' := [dz_J 12, dz_J 1, dz_J (dz_c a2)]) rfl rfl ?_
    refine wq_cs (Dq := (D + 1)) (r' := mm_r120) (as0 := [dz_J (dz_c a2), dz_J 1, dz_J 12]) (rest := []) (ls' := [some (dz_J (dz_c a2)), none, some (dz_J 1), none, some (dz_J 12), none]) (pc' := 17) rfl rfl (by decide) rfl rfl rfl rfl rfl ?_
    refine jw_in (a' := dz_c a2) (b' := 1) (c' := 12) (dz_lc _) (by decide) (by decide) ?_
    show mm_Wp X (D + 2) mm_r183 17 [some (.ref 114), some (dz_I a1), some (dz_I a2), some (dz_I a3), some (dz_I a4), none, none, none, none] [dz_B (decide (1 ≤ dz_c a2 ∧ dz_c a2 ≤ 12))] (hz_0 Z) Q
    refine wq_if (p := ¬(1 ≤ dz_c a2 ∧ dz_c a2 ≤ 12)) (tt := 32) (pc' := 20) rfl rfl (cd_eq) rfl (fun c3 => ?_) (fun c3 => ?_)
    · replace H := dz_it c3 H
      refine wp_s (i := .iconst (-1)) (n := 1) (pc' := 33) (st' := [dz_I (-1)]) rfl rfl ?_
      refine wq_ri rfl rfl ?_
      replace H := dz_sm H
      exact H
    · replace H := dz_if c3 H
      refine wp_s (i := .iload_n 3) (n := 1) (pc' := 21) (st' := [dz_I a3]) rfl rfl ?_
      refine wq_3 (i := .i2l) (v' := dz_J (dz_c a3)) (pc' := 22) rfl rfl (oq_i2l' rfl) rfl ?_
      refine wp_s (i := .lconst 1) (n := 1) (pc' := 23) (st' := [dz_J 1, dz_J (dz_c a3)]) rfl rfl ?_
      refine wp_s (i := .ldc2_w 279) (n := 3) (pc' := 26) (st' := [dz_J 10, dz_J 1, dz_J (dz_c a3)]) rfl rfl ?_
      refine wq_cs (Dq := (D + 1)) (r' := mm_r120) (as0 := [dz_J (dz_c a3), dz_J 1, dz_J 10]) (rest := []) (ls' := [some (dz_J (dz_c a3)), none, some (dz_J 1), none, some (dz_J 10), none]) (pc' := 29) rfl rfl (by decide) rfl rfl rfl rfl rfl ?_
      refine jw_in (a' := dz_c a3) (b' := 1) (c' := 10) (dz_lc _) (by decide) (by decide) ?_
      show mm_Wp X (D + 2) mm_r183 29 [some (.ref 114), some (dz_I a1), some (dz_I a2), some (dz_I a3), some (dz_I a4), none, none, none, none] [dz_B (decide (1 ≤ dz_c a3 ∧ dz_c a3 ≤ 10))] (hz_0 Z) Q
      refine wq_if (p := 1 ≤ dz_c a3 ∧ dz_c a3 ≤ 10) (tt := 34) (pc' := 32) rfl rfl (cd_ne) rfl (fun c4 => ?_) (fun c4 => ?_)
      · replace H := dz_it c4 H
        refine wp_s (i := .iload 4) (n := 2) (pc' := 36) (st' := [dz_I a4]) rfl rfl ?_
        refine wq_st (k := 5) (i := .istore 5) (n := 2) (ls' := [some (.ref 114), some (dz_I a1), some (dz_I a2), some (dz_I a3), some (dz_I a4), some (dz_I a4), none, none, none]) (pc' := 38) rfl rfl rfl rfl rfl ?_
        refine wp_s (i := .iconst 0) (n := 1) (pc' := 39) (st' := [dz_I 0]) rfl rfl ?_
        refine wq_st (k := 6) (i := .istore 6) (n := 2) (ls' := [some (.ref 114), some (dz_I a1), some (dz_I a2), some (dz_I a3), some (dz_I a4), some (dz_I a4), some (dz_I 0), none, none]) (pc' := 41) rfl rfl rfl rfl rfl ?_
        refine wp_s (i := .aload_n 0) (n := 1) (pc' := 42) (st' := [.ref 114]) rfl rfl ?_
        refine wq_gr (idx := 7) (a := 115) (pc' := 45) rfl rfl ho_M rfl rfl ?_
        refine wp_s (i := .bipush 34) (n := 2) (pc' := 47) (st' := [dz_I 34, .ref 115]) rfl rfl ?_
        refine wp_s (i := .bipush 13) (n := 2) (pc' := 49) (st' := [dz_I 13, dz_I 34, .ref 115]) rfl rfl ?_
        refine wp_s (i := .iload_n 1) (n := 1) (pc' := 50) (st' := [dz_I a1, dz_I 13, dz_I 34, .ref 115]) rfl rfl ?_
        refine wq_2 (i := .imul) (z := 13 * a1) (pc' := 51) rfl rfl (op_mul _ _) rfl ?_
        refine wq_2 (i := .iadd) (z := 34 + (13 * a1)) (pc' := 52) rfl rfl (op_add _ _) rfl ?_
        refine wp_s (i := .iload_n 2) (n := 1) (pc' := 53) (st' := [dz_I a2, dz_I (34 + (13 * a1)), .ref 115]) rfl rfl ?_
        obtain ⟨k5, H⟩ := dz_ck H
        refine wq_is (j' := dz_c (34 + (13 * a1))) (x := a2) (pc' := 54) rfl ha_M_0 rfl k5.1 k5.2 rfl (fun Z6 eZ6 => ?_)
        replace H := dz_le H Z6 eZ6
        clear eZ6
        refine wp_s (i := .iconst 0) (n := 1) (pc' := 55) (st' := [dz_I 0]) rfl rfl ?_
        refine wq_st (k := 7) (i := .istore 7) (n := 2) (ls' := [some (.ref 114), some (dz_I a1), some (dz_I a2), some (dz_I a3), some (dz_I a4), some (dz_I a4), some (dz_I 0), some (dz_I 0), none]) (pc' := 57) rfl rfl rfl rfl rfl ?_
        refine dz_lpi (P := fun (s7 : Int × Int × Int × dz_Z) => ∀ (u8 : Option Int32), mm_Wp X (D + 2) mm_r183 57 [some (.ref 114), some (dz_I a1), some (dz_I a2), some (dz_I a3), some (dz_I a4), some (dz_I s7.1), some (dz_I s7.2.1), some (dz_I s7.2.2.1), Option.map Value.int u8] [] (hz_0 s7.2.2.2) Q) (fun s7 H => ?_) 5000 (a4, 0, 0, Z6) H none
        intro u8
        refine wp_s (i := .iload 7) (n := 2) (pc' := 59) (st' := [dz_I s7.2.2.1]) rfl rfl ?_
        refine wp_s (i := .iload_n 2) (n := 1) (pc' := 60) (st' := [dz_I a2, dz_I s7.2.2.1]) rfl rfl ?_
        refine wq_ic (p := dz_c a2 ≤ dz_c s7.2.2.1) (tt := 120) (pc' := 63) rfl rfl (cq_ge rfl rfl) rfl (fun c9 => ?_) (fun c9 => ?_)
        · replace H := dz_it c9 H
          refine wp_s (i := .iload 6) (n := 2) (pc' := 122) (st' := [dz_I s7.2.1]) rfl rfl ?_
          refine wq_ri rfl rfl ?_
          replace H := dz_out H
          replace H := dz_sm H
          exact H
        · replace H := dz_if c9 H
          refine wp_s (i := .iload 5) (n := 2) (pc' := 65) (st' := [dz_I s7.1]) rfl rfl ?_
          refine wp_s (i := .ldc_w 281) (n := 3) (pc' := 68) (st' := [dz_I 1103515245, dz_I s7.1]) rfl rfl ?_
          refine wq_2 (i := .imul) (z := s7.1 * 1103515245) (pc' := 69) rfl rfl (op_mul _ _) rfl ?_
          refine wp_s (i := .sipush 12345) (n := 3) (pc' := 72) (st' := [dz_I 12345, dz_I (s7.1 * 1103515245)]) rfl rfl ?_
          refine wq_2 (i := .iadd) (z := (s7.1 * 1103515245) + 12345) (pc' := 73) rfl rfl (op_add _ _) rfl ?_
          refine wq_st (k := 5) (i := .istore 5) (n := 2) (ls' := [some (.ref 114), some (dz_I a1), some (dz_I a2), some (dz_I a3), some (dz_I a4), some (dz_I ((s7.1 * 1103515245) + 12345)), some (dz_I s7.2.1), some (dz_I s7.2.2.1), Option.map Value.int u8]) (pc' := 75) rfl rfl rfl rfl rfl ?_
          refine wp_s (i := .iload 5) (n := 2) (pc' := 77) (st' := [dz_I ((s7.1 * 1103515245) + 12345)]) rfl rfl ?_
          refine wp_s (i := .bipush 16) (n := 2) (pc' := 79) (st' := [dz_I 16, dz_I ((s7.1 * 1103515245) + 12345)]) rfl rfl ?_
          refine wq_2 (i := .ishr) (z := dz_sr ((s7.1 * 1103515245) + 12345) 16) (pc' := 80) rfl rfl (op_shr _ _) rfl ?_
          refine wp_s (i := .sipush 32767) (n := 3) (pc' := 83) (st' := [dz_I 32767, dz_I (dz_sr ((s7.1 * 1103515245) + 12345) 16)]) rfl rfl ?_
          refine wq_2 (i := .iand) (z := dz_an (dz_sr ((s7.1 * 1103515245) + 12345) 16) 32767) (pc' := 84) rfl rfl (op_and _ _) rfl ?_
          refine wp_s (i := .iload_n 3) (n := 1) (pc' := 85) (st' := [dz_I a3, dz_I (dz_an (dz_sr ((s7.1 * 1103515245) + 12345) 16) 32767)]) rfl rfl ?_
          obtain ⟨k10, H⟩ := dz_ck H
          refine wq_2 (i := .irem) (z := Int.tmod (dz_c (dz_an (dz_sr ((s7.1 * 1103515245) + 12345) 16) 32767)) (dz_c a3)) (pc' := 86) rfl rfl (op_rem rfl rfl k10) rfl ?_
          refine wq_sa (k := 8) (F := fun x11 => [some (.ref 114), some (dz_I a1), some (dz_I a2), some (dz_I a3), some (dz_I a4), some (dz_I ((s7.1 * 1103515245) + 12345)), some (dz_I s7.2.1), some (dz_I s7.2.2.1), some (dz_I x11)]) (i := .istore 8) (n := 2) (pc' := 88) rfl rfl (fun _ => rfl) (fun _ => rfl) rfl (fun x11 ex11 => ?_)
          show mm_Wp _ _ _ 88 [some (.ref 114), some (dz_I a1), some (dz_I a2), some (dz_I a3), some (dz_I a4), some (dz_I ((s7.1 * 1103515245) + 12345)), some (dz_I s7.2.1), some (dz_I s7.2.2.1), some (dz_I x11)] [] _ _
          replace H := dz_le H x11 ex11
          clear ex11
          refine wp_s (i := .aload_n 0) (n := 1) (pc' := 89) (st' := [.ref 114]) rfl rfl ?_
          refine wq_gr (idx := 7) (a := 115) (pc' := 92) rfl rfl ho_M rfl rfl ?_
          refine wp_s (i := .bipush 34) (n := 2) (pc' := 94) (st' := [dz_I 34, .ref 115]) rfl rfl ?_
          refine wp_s (i := .bipush 13) (n := 2) (pc' := 96) (st' := [dz_I 13, dz_I 34, .ref 115]) rfl rfl ?_
          refine wp_s (i := .iload_n 1) (n := 1) (pc' := 97) (st' := [dz_I a1, dz_I 13, dz_I 34, .ref 115]) rfl rfl ?_
          refine wq_2 (i := .imul) (z := 13 * a1) (pc' := 98) rfl rfl (op_mul _ _) rfl ?_
          refine wq_2 (i := .iadd) (z := 34 + (13 * a1)) (pc' := 99) rfl rfl (op_add _ _) rfl ?_
          refine wp_s (i := .iconst 1) (n := 1) (pc' := 100) (st' := [dz_I 1, dz_I (34 + (13 * a1)), .ref 115]) rfl rfl ?_
          refine wq_2 (i := .iadd) (z := (34 + (13 * a1)) + 1) (pc' := 101) rfl rfl (op_add _ _) rfl ?_
          refine wp_s (i := .iload 7) (n := 2) (pc' := 103) (st' := [dz_I s7.2.2.1, dz_I ((34 + (13 * a1)) + 1), .ref 115]) rfl rfl ?_
          refine wq_2 (i := .iadd) (z := ((34 + (13 * a1)) + 1) + s7.2.2.1) (pc' := 104) rfl rfl (op_add _ _) rfl ?_
          refine wp_s (i := .iload 8) (n := 2) (pc' := 106) (st' := [dz_I x11, dz_I (((34 + (13 * a1)) + 1) + s7.2.2.1), .ref 115]) rfl rfl ?_
          obtain ⟨k12, H⟩ := dz_ck H
          refine wq_is (j' := dz_c (((34 + (13 * a1)) + 1) + s7.2.2.1)) (x := x11) (pc' := 107) rfl ha_M_0 rfl k12.1 k12.2 rfl (fun Z13 eZ13 => ?_)
          replace H := dz_le H Z13 eZ13
          clear eZ13
          refine wp_s (i := .iload 6) (n := 2) (pc' := 109) (st' := [dz_I s7.2.1]) rfl rfl ?_
          refine wp_s (i := .iload 8) (n := 2) (pc' := 111) (st' := [dz_I x11, dz_I s7.2.1]) rfl rfl ?_
          refine wq_2 (i := .iadd) (z := s7.2.1 + x11) (pc' := 112) rfl rfl (op_add _ _) rfl ?_
          refine wq_st (k := 6) (i := .istore 6) (n := 2) (ls' := [some (.ref 114), some (dz_I a1), some (dz_I a2), some (dz_I a3), some (dz_I a4), some (dz_I ((s7.1 * 1103515245) + 12345)), some (dz_I (s7.2.1 + x11)), some (dz_I s7.2.2.1), some (dz_I x11)]) (pc' := 114) rfl rfl rfl rfl rfl ?_
          refine wq_inc (k := 7) (d := 1) (x := s7.2.2.1) (ls' := [some (.ref 114), some (dz_I a1), some (dz_I a2), some (dz_I a3), some (dz_I a4), some (dz_I ((s7.1 * 1103515245) + 12345)), some (dz_I (s7.2.1 + x11)), some (dz_I (s7.2.2.1 + 1)), some (dz_I x11)]) (pc' := 117) rfl rfl rfl rfl ?_
          refine wp_s (i := .goto (-60)) (n := 3) (pc' := 57) (st' := []) rfl rfl ?_
          replace H := dz_back H
          exact H (some (Int32.ofInt x11))
      · replace H := dz_if c4 H
        refine wp_s (i := .iconst (-1)) (n := 1) (pc' := 33) (st' := [dz_I (-1)]) rfl rfl ?_
        refine wq_ri rfl rfl ?_
        replace H := dz_sm H
        exact H
-- 184
def jf_M_copies (a1 : Int) (a2 : Int) (Z : dz_Z) : Option (dz_Z) := dz_lp (fun (s1 : Int × dz_Z) => if 140 ≤ dz_c s1.1 then (some (Sum.inr s1.2)) else (if 0 ≤ dz_c (a1 + s1.1) ∧ dz_c (a1 + s1.1) < 700 then if 0 ≤ dz_c (a2 + s1.1) ∧ dz_c (a2 + s1.1) < 700 then dz_a (dz_u s1.2 114 0 (dz_c (a2 + s1.1)) (s1.2 114 0 (dz_c (a1 + s1.1)))) fun Z5 => some (Sum.inl (s1.1 + 1, Z5)) else none else none)) 5000 (0, Z)
set_option maxRecDepth 20000 in
theorem jw_M_copies {X : Option (List Int32)} {D : Nat} {Q : Option Value → mm_H → Prop} (a1 : Int) (a2 : Int) (Z : dz_Z) (H : dz_p (jf_M_copies a1 a2 Z) (fun q => Q (none) (hz_0 q))) : mm_Wp X D mm_r184 0 [some (.ref 114), some (dz_I a1), some (dz_I a2), none] [] (hz_0 Z) Q := by
  unfold jf_M_copies at H
  refine wp_s (i := .iconst 0) (n := 1) (pc' := 1) (st' := [dz_I 0]) rfl rfl ?_
  refine wq_st (k := 3) (i := .istore_n 3) (n := 1) (ls' := [some (.ref 114), some (dz_I a1), some (dz_I a2), some (dz_I 0)]) (pc' := 2) rfl rfl rfl rfl rfl ?_
  refine dz_lpi (P := fun (s1 : Int × dz_Z) => mm_Wp X D mm_r184 2 [some (.ref 114), some (dz_I a1), some (dz_I a2), some (dz_I s1.1)] [] (hz_0 s1.2) Q) (fun s1 H => ?_) 5000 (0, Z) H
  refine wp_s (i := .iload_n 3) (n := 1) (pc' := 3) (st' := [dz_I s1.1]) rfl rfl ?_
  refine wp_s (i := .sipush 140) (n := 3) (pc' := 6) (st' := [dz_I 140, dz_I s1.1]) rfl rfl ?_
  refine wq_ic (p := 140 ≤ dz_c s1.1) (tt := 31) (pc' := 9) rfl rfl (cq_ge rfl dk_140) rfl (fun c2 => ?_) (fun c2 => ?_)
  · replace H := dz_it c2 H
    refine wq_rv rfl rfl ?_
    replace H := dz_out H
    replace H := dz_sm H
    exact H
  · replace H := dz_if c2 H
    refine wp_s (i := .aload_n 0) (n := 1) (pc' := 10) (st' := [.ref 114]) rfl rfl ?_
    refine wq_gr (idx := 7) (a := 115) (pc' := 13) rfl rfl ho_M rfl rfl ?_
    refine wp_s (i := .iload_n 2) (n := 1) (pc' := 14) (st' := [dz_I a2, .ref 115]) rfl rfl ?_
    refine wp_s (i := .iload_n 3) (n := 1) (pc' := 15) (st' := [dz_I s1.1, dz_I a2, .ref 115]) rfl rfl ?_
    refine wq_2 (i := .iadd) (z := a2 + s1.1) (pc' := 16) rfl rfl (op_add _ _) rfl ?_
    refine wp_s (i := .aload_n 0) (n := 1) (pc' := 17) (st' := [.ref 114, dz_I (a2 + s1.1), .ref 115]) rfl rfl ?_
    refine wq_gr (idx := 7) (a := 115) (pc' := 20) rfl rfl ho_M rfl rfl ?_
    refine wp_s (i := .iload_n 1) (n := 1) (pc' := 21) (st' := [dz_I a1, .ref 115, dz_I (a2 + s1.1), .ref 115]) rfl rfl ?_
    refine wp_s (i := .iload_n 3) (n := 1) (pc' := 22) (st' := [dz_I s1.1, dz_I a1, .ref 115, dz_I (a2 + s1.1), .ref 115]) rfl rfl ?_
    refine wq_2 (i := .iadd) (z := a1 + s1.1) (pc' := 23) rfl rfl (op_add _ _) rfl ?_
    obtain ⟨k3, H⟩ := dz_ck H
    refine wq_ia (j' := dz_c (a1 + s1.1)) (pc' := 24) rfl ha_M_0 rfl k3.1 k3.2 rfl ?_
    obtain ⟨k4, H⟩ := dz_ck H
    refine wq_is (j' := dz_c (a2 + s1.1)) (x := s1.2 114 0 (dz_c (a1 + s1.1))) (pc' := 25) rfl ha_M_0 rfl k4.1 k4.2 rfl (fun Z5 eZ5 => ?_)
    replace H := dz_le H Z5 eZ5
    clear eZ5
    refine wq_inc (k := 3) (d := 1) (x := s1.1) (ls' := [some (.ref 114), some (dz_I a1), some (dz_I a2), some (dz_I (s1.1 + 1))]) (pc' := 28) rfl rfl rfl rfl ?_
    refine wp_s (i := .goto (-26)) (n := 3) (pc' := 2) (st' := []) rfl rfl ?_
    replace H := dz_back H
    exact H
-- 185
def jf_M_keep (a1 : Int) (Z : dz_Z) : Option (Int × dz_Z) := if 0 ≤ dz_c a1 ∧ dz_c a1 ≤ 1 then (Option.bind (jf_M_copies 0 (140 * (a1 + 1)) Z) fun q2 => if 0 ≤ dz_c a1 ∧ dz_c a1 < 2 then Option.bind (α := Int) (if dz_c (q2 114 41 (dz_c a1)) = 0 then (some 0) else (some 1)) (fun (q5 : Int) => dz_a (dz_u q2 114 41 (dz_c a1) 1) fun Z6 => some (q5, Z6)) else none) else (some ((-1), Z))
set_option maxRecDepth 20000 in
theorem jw_M_keep {X : Option (List Int32)} {D : Nat} {Q : Option Value → mm_H → Prop} (a1 : Int) (Z : dz_Z) (H : dz_p (jf_M_keep a1 Z) (fun q => Q (some (dz_I q.1)) (hz_0 q.2))) : mm_Wp X (D + 1) mm_r185 0 [some (.ref 114), some (dz_I a1), none] [] (hz_0 Z) Q := by
  unfold jf_M_keep at H
  refine wp_s (i := .iload_n 1) (n := 1) (pc' := 1) (st' := [dz_I a1]) rfl rfl ?_
  refine wq_3 (i := .i2l) (v' := dz_J (dz_c a1)) (pc' := 2) rfl rfl (oq_i2l' rfl) rfl ?_
  refine wp_s (i := .lconst 0) (n := 1) (pc' := 3) (st' := [dz_J 0, dz_J (dz_c a1)]) rfl rfl ?_
  refine wp_s (i := .lconst 1) (n := 1) (pc' := 4) (st' := [dz_J 1, dz_J 0, dz_J (dz_c a1)]) rfl rfl ?_
  refine wq_cs (Dq := D) (r' := mm_r120) (as0 := [dz_J (dz_c a1), dz_J 0, dz_J 1]) (rest := []) (ls' := [some (dz_J (dz_c a1)), none, some (dz_J 0), none, some (dz_J 1), none]) (pc' := 7) rfl rfl (by decide) rfl rfl rfl rfl rfl ?_
  refine jw_in (a' := dz_c a1) (b' := 0) (c' := 1) (dz_lc _) (by decide) (by decide) ?_
  show mm_Wp X (D + 1) mm_r185 7 [some (.ref 114), some (dz_I a1), none] [dz_B (decide (0 ≤ dz_c a1 ∧ dz_c a1 ≤ 1))] (hz_0 Z) Q
  refine wq_if (p := 0 ≤ dz_c a1 ∧ dz_c a1 ≤ 1) (tt := 12) (pc' := 10) rfl rfl (cd_ne) rfl (fun c1 => ?_) (fun c1 => ?_)
  · replace H := dz_it c1 H
    refine wp_s (i := .aload_n 0) (n := 1) (pc' := 13) (st' := [.ref 114]) rfl rfl ?_
    refine wp_s (i := .iconst 0) (n := 1) (pc' := 14) (st' := [dz_I 0, .ref 114]) rfl rfl ?_
    refine wp_s (i := .sipush 140) (n := 3) (pc' := 17) (st' := [dz_I 140, dz_I 0, .ref 114]) rfl rfl ?_
    refine wp_s (i := .iload_n 1) (n := 1) (pc' := 18) (st' := [dz_I a1, dz_I 140, dz_I 0, .ref 114]) rfl rfl ?_
    refine wp_s (i := .iconst 1) (n := 1) (pc' := 19) (st' := [dz_I 1, dz_I a1, dz_I 140, dz_I 0, .ref 114]) rfl rfl ?_
    refine wq_2 (i := .iadd) (z := a1 + 1) (pc' := 20) rfl rfl (op_add _ _) rfl ?_
    refine wq_2 (i := .imul) (z := 140 * (a1 + 1)) (pc' := 21) rfl rfl (op_mul _ _) rfl ?_
    refine wq_cv (Dq := D) (r' := mm_r184) (as0 := [dz_I 0, dz_I (140 * (a1 + 1))]) (rest := []) (ls' := [some (.ref 114), some (dz_I 0), some (dz_I (140 * (a1 + 1))), none]) (pc' := 24) rfl rfl rfl rfl ho_M rfl rfl rfl ?_
    refine jw_M_copies (X := X) (D := D + 0) 0 (140 * (a1 + 1)) Z (dz_pm (dz_bi H) (fun q2 H => ?_))
    show mm_Wp X (D + 1) mm_r185 24 [some (.ref 114), some (dz_I a1), none] [] (hz_0 q2) Q
    refine wp_s (i := .aload_n 0) (n := 1) (pc' := 25) (st' := [.ref 114]) rfl rfl ?_
    refine wq_gr (idx := 64) (a := 133) (pc' := 28) rfl rfl ho_M rfl rfl ?_
    refine wp_s (i := .iload_n 1) (n := 1) (pc' := 29) (st' := [dz_I a1, .ref 133]) rfl rfl ?_
    obtain ⟨k3, H⟩ := dz_ck H
    refine wq_ba (j' := dz_c a1) (pc' := 30) rfl (by decide) ha_M_41 rfl k3.1 k3.2 rfl ?_
    refine dz_jn (P := fun (q5 : Int) => mm_Wp X (D + 1) mm_r185 38 [some (.ref 114), some (dz_I a1), none] [dz_I q5] (hz_0 q2) Q) (dz_bi H) (fun q5 H => ?_) (fun H => ?_)
    · skip
      refine wq_st (k := 2) (i := .istore_n 2) (n := 1) (ls' := [some (.ref 114), some (dz_I a1), some (dz_I q5)]) (pc' := 39) rfl rfl rfl rfl rfl ?_
      refine wp_s (i := .aload_n 0) (n := 1) (pc' := 40) (st' := [.ref 114]) rfl rfl ?_
      refine wq_gr (idx := 64) (a := 133) (pc' := 43) rfl rfl ho_M rfl rfl ?_
      refine wp_s (i := .iload_n 1) (n := 1) (pc' := 44) (st' := [dz_I a1, .ref 133]) rfl rfl ?_
      refine wp_s (i := .iconst 1) (n := 1) (pc' := 45) (st' := [dz_I 1, dz_I a1, .ref 133]) rfl rfl ?_
      refine wq_zs (j' := dz_c a1) (x := 1) (pc' := 46) rfl ha_M_41 rfl rfl k3.1 k3.2 rfl (fun Z6 eZ6 => ?_)
      replace H := dz_le H Z6 eZ6
      clear eZ6
      refine wp_s (i := .iload_n 2) (n := 1) (pc' := 47) (st' := [dz_I q5]) rfl rfl ?_
      refine wq_ri rfl rfl ?_
      replace H := dz_sm H
      exact H
    · skip
      refine wq_if (p := dz_c (q2 114 41 (dz_c a1)) = 0) (tt := 37) (pc' := 33) rfl rfl (cz_eq rfl) rfl (fun c7 => ?_) (fun c7 => ?_)
      · replace H := dz_it c7 H
        refine wp_s (i := .iconst 0) (n := 1) (pc' := 38) (st' := [dz_I 0]) rfl rfl ?_
        replace H := dz_sm H
        exact H
      · replace H := dz_if c7 H
        refine wp_s (i := .iconst 1) (n := 1) (pc' := 34) (st' := [dz_I 1]) rfl rfl ?_
        refine wp_s (i := .goto 4) (n := 3) (pc' := 38) (st' := [dz_I 1]) rfl rfl ?_
        replace H := dz_sm H
        exact H
  · replace H := dz_if c1 H
    refine wp_s (i := .iconst (-1)) (n := 1) (pc' := 11) (st' := [dz_I (-1)]) rfl rfl ?_
    refine wq_ri rfl rfl ?_
    replace H := dz_sm H
    exact H
-- 186
def jf_M_back (a1 : Int) (Z : dz_Z) : Option (Int × dz_Z) := if 0 ≤ dz_c a1 ∧ dz_c a1 ≤ 1 then (if 0 ≤ dz_c a1 ∧ dz_c a1 < 2 then if dz_c (Z 114 41 (dz_c a1)) ≠ 0 then (Option.bind (jf_M_copies (140 * (a1 + 1)) 0 Z) fun q4 => some (q4 114 0 134, q4)) else (some ((-2), Z)) else none) else (some ((-1), Z))
set_option maxRecDepth 20000 in
theorem jw_M_back {X : Option (List Int32)} {D : Nat} {Q : Option Value → mm_H → Prop} (a1 : Int) (Z : dz_Z) (H : dz_p (jf_M_back a1 Z) (fun q => Q (some (dz_I q.1)) (hz_0 q.2))) : mm_Wp X (D + 1) mm_r186 0 [some (.ref 114), some (dz_I a1)] [] (hz_0 Z) Q := by
  unfold jf_M_back at H
  refine wp_s (i := .iload_n 1) (n := 1) (pc' := 1) (st' := [dz_I a1]) rfl rfl ?_
  refine wq_3 (i := .i2l) (v' := dz_J (dz_c a1)) (pc' := 2) rfl rfl (oq_i2l' rfl) rfl ?_
  refine wp_s (i := .lconst 0) (n := 1) (pc' := 3) (st' := [dz_J 0, dz_J (dz_c a1)]) rfl rfl ?_
  refine wp_s (i := .lconst 1) (n := 1) (pc' := 4) (st' := [dz_J 1, dz_J 0, dz_J (dz_c a1)]) rfl rfl ?_
  refine wq_cs (Dq := D) (r' := mm_r120) (as0 := [dz_J (dz_c a1), dz_J 0, dz_J 1]) (rest := []) (ls' := [some (dz_J (dz_c a1)), none, some (dz_J 0), none, some (dz_J 1), none]) (pc' := 7) rfl rfl (by decide) rfl rfl rfl rfl rfl ?_
  refine jw_in (a' := dz_c a1) (b' := 0) (c' := 1) (dz_lc _) (by decide) (by decide) ?_
  show mm_Wp X (D + 1) mm_r186 7 [some (.ref 114), some (dz_I a1)] [dz_B (decide (0 ≤ dz_c a1 ∧ dz_c a1 ≤ 1))] (hz_0 Z) Q
  refine wq_if (p := 0 ≤ dz_c a1 ∧ dz_c a1 ≤ 1) (tt := 12) (pc' := 10) rfl rfl (cd_ne) rfl (fun c1 => ?_) (fun c1 => ?_)
  · replace H := dz_it c1 H
    refine wp_s (i := .aload_n 0) (n := 1) (pc' := 13) (st' := [.ref 114]) rfl rfl ?_
    refine wq_gr (idx := 64) (a := 133) (pc' := 16) rfl rfl ho_M rfl rfl ?_
    refine wp_s (i := .iload_n 1) (n := 1) (pc' := 17) (st' := [dz_I a1, .ref 133]) rfl rfl ?_
    obtain ⟨k2, H⟩ := dz_ck H
    refine wq_ba (j' := dz_c a1) (pc' := 18) rfl (by decide) ha_M_41 rfl k2.1 k2.2 rfl ?_
    refine wq_if (p := dz_c (Z 114 41 (dz_c a1)) ≠ 0) (tt := 24) (pc' := 21) rfl rfl (cz_ne rfl) rfl (fun c3 => ?_) (fun c3 => ?_)
    · replace H := dz_it c3 H
      refine wp_s (i := .aload_n 0) (n := 1) (pc' := 25) (st' := [.ref 114]) rfl rfl ?_
      refine wp_s (i := .sipush 140) (n := 3) (pc' := 28) (st' := [dz_I 140, .ref 114]) rfl rfl ?_
      refine wp_s (i := .iload_n 1) (n := 1) (pc' := 29) (st' := [dz_I a1, dz_I 140, .ref 114]) rfl rfl ?_
      refine wp_s (i := .iconst 1) (n := 1) (pc' := 30) (st' := [dz_I 1, dz_I a1, dz_I 140, .ref 114]) rfl rfl ?_
      refine wq_2 (i := .iadd) (z := a1 + 1) (pc' := 31) rfl rfl (op_add _ _) rfl ?_
      refine wq_2 (i := .imul) (z := 140 * (a1 + 1)) (pc' := 32) rfl rfl (op_mul _ _) rfl ?_
      refine wp_s (i := .iconst 0) (n := 1) (pc' := 33) (st' := [dz_I 0, dz_I (140 * (a1 + 1)), .ref 114]) rfl rfl ?_
      refine wq_cv (Dq := D) (r' := mm_r184) (as0 := [dz_I (140 * (a1 + 1)), dz_I 0]) (rest := []) (ls' := [some (.ref 114), some (dz_I (140 * (a1 + 1))), some (dz_I 0), none]) (pc' := 36) rfl rfl rfl rfl ho_M rfl rfl rfl ?_
      refine jw_M_copies (X := X) (D := D + 0) (140 * (a1 + 1)) 0 Z (dz_pm (dz_bi H) (fun q4 H => ?_))
      show mm_Wp X (D + 1) mm_r186 36 [some (.ref 114), some (dz_I a1)] [] (hz_0 q4) Q
      refine wp_s (i := .aload_n 0) (n := 1) (pc' := 37) (st' := [.ref 114]) rfl rfl ?_
      refine wq_gr (idx := 7) (a := 115) (pc' := 40) rfl rfl ho_M rfl rfl ?_
      refine wp_s (i := .sipush 134) (n := 3) (pc' := 43) (st' := [dz_I 134, .ref 115]) rfl rfl ?_
      refine wq_ia (j' := 134) (pc' := 44) rfl ha_M_0 dk_134 (by decide) (by decide) rfl ?_
      refine wq_ri rfl rfl ?_
      replace H := dz_sm H
      exact H
    · replace H := dz_if c3 H
      refine wp_s (i := .bipush (-2)) (n := 2) (pc' := 23) (st' := [dz_I (-2)]) rfl rfl ?_
      refine wq_ri rfl rfl ?_
      replace H := dz_sm H
      exact H
  · replace H := dz_if c1 H
    refine wp_s (i := .iconst (-1)) (n := 1) (pc' := 11) (st' := [dz_I (-1)]) rfl rfl ?_
    refine wq_ri rfl rfl ?_
    replace H := dz_sm H
    exact H
-- 187
def jf_M_sheet (a1 : Int) (a2 : Int) (a3 : Int) (Z : dz_Z) : Option (Int × dz_Z) := if ¬(0 ≤ dz_c a1 ∧ dz_c a1 ≤ 3) then (some ((-1), Z)) else (if ¬(0 ≤ dz_c a2 ∧ dz_c a2 ≤ 2) then (some ((-1), Z)) else (if dz_c a3 ≤ 40 then (if 0 ≤ dz_c a3 then (if 0 ≤ dz_c a1 ∧ dz_c a1 < 4 then dz_a (dz_u Z 114 42 (dz_c a1) a2) fun Z6 => dz_a (dz_u Z6 114 43 (dz_c a1) a3) fun Z7 => dz_lp (fun (s8 : Int × dz_Z) => if 40 ≤ dz_c s8.1 then (some (Sum.inr (1, s8.2))) else (if 0 ≤ dz_c ((40 * a1) + s8.1) ∧ dz_c ((40 * a1) + s8.1) < 160 then dz_a (dz_u s8.2 114 44 (dz_c ((40 * a1) + s8.1)) 0) fun Z11 => some (Sum.inl (s8.1 + 1, Z11)) else none)) 5000 (0, Z7) else none) else (some ((-14), Z))) else (some ((-1), Z))))
set_option maxRecDepth 20000 in
theorem jw_M_sheet {X : Option (List Int32)} {D : Nat} {Q : Option Value → mm_H → Prop} (a1 : Int) (a2 : Int) (a3 : Int) (Z : dz_Z) (H : dz_p (jf_M_sheet a1 a2 a3 Z) (fun q => Q (some (dz_I q.1)) (hz_0 q.2))) : mm_Wp X (D + 1) mm_r187 0 [some (.ref 114), some (dz_I a1), some (dz_I a2), some (dz_I a3), none] [] (hz_0 Z) Q := by
  unfold jf_M_sheet at H
  refine wp_s (i := .iload_n 1) (n := 1) (pc' := 1) (st' := [dz_I a1]) rfl rfl ?_
  refine wq_3 (i := .i2l) (v' := dz_J (dz_c a1)) (pc' := 2) rfl rfl (oq_i2l' rfl) rfl ?_
  refine wp_s (i := .lconst 0) (n := 1) (pc' := 3) (st' := [dz_J 0, dz_J (dz_c a1)]) rfl rfl ?_
  refine wp_s (i := .ldc2_w 285) (n := 3) (pc' := 6) (st' := [dz_J 3, dz_J 0, dz_J (dz_c a1)]) rfl rfl ?_
  refine wq_cs (Dq := D) (r' := mm_r120) (as0 := [dz_J (dz_c a1), dz_J 0, dz_J 3]) (rest := []) (ls' := [some (dz_J (dz_c a1)), none, some (dz_J 0), none, some (dz_J 3), none]) (pc' := 9) rfl rfl (by decide) rfl rfl rfl rfl rfl ?_
  refine jw_in (a' := dz_c a1) (b' := 0) (c' := 3) (dz_lc _) (by decide) (by decide) ?_
  show mm_Wp X (D + 1) mm_r187 9 [some (.ref 114), some (dz_I a1), some (dz_I a2), some (dz_I a3), none] [dz_B (decide (0 ≤ dz_c a1 ∧ dz_c a1 ≤ 3))] (hz_0 Z) Q
  refine wq_if (p := ¬(0 ≤ dz_c a1 ∧ dz_c a1 ≤ 3)) (tt := 30) (pc' := 12) rfl rfl (cd_eq) rfl (fun c1 => ?_) (fun c1 => ?_)
  · replace H := dz_it c1 H
    refine wp_s (i := .iconst (-1)) (n := 1) (pc' := 31) (st' := [dz_I (-1)]) rfl rfl ?_
    refine wq_ri rfl rfl ?_
    replace H := dz_sm H
    exact H
  · replace H := dz_if c1 H
    refine wp_s (i := .iload_n 2) (n := 1) (pc' := 13) (st' := [dz_I a2]) rfl rfl ?_
    refine wq_3 (i := .i2l) (v' := dz_J (dz_c a2)) (pc' := 14) rfl rfl (oq_i2l' rfl) rfl ?_
    refine wp_s (i := .lconst 0) (n := 1) (pc' := 15) (st' := [dz_J 0, dz_J (dz_c a2)]) rfl rfl ?_
    refine wp_s (i := .ldc2_w 198) (n := 3) (pc' := 18) (st' := [dz_J 2, dz_J 0, dz_J (dz_c a2)]) rfl rfl ?_
    refine wq_cs (Dq := D) (r' := mm_r120) (as0 := [dz_J (dz_c a2), dz_J 0, dz_J 2]) (rest := []) (ls' := [some (dz_J (dz_c a2)), none, some (dz_J 0), none, some (dz_J 2), none]) (pc' := 21) rfl rfl (by decide) rfl rfl rfl rfl rfl ?_
    refine jw_in (a' := dz_c a2) (b' := 0) (c' := 2) (dz_lc _) (by decide) (by decide) ?_
    show mm_Wp X (D + 1) mm_r187 21 [some (.ref 114), some (dz_I a1), some (dz_I a2), some (dz_I a3), none] [dz_B (decide (0 ≤ dz_c a2 ∧ dz_c a2 ≤ 2))] (hz_0 Z) Q
    refine wq_if (p := ¬(0 ≤ dz_c a2 ∧ dz_c a2 ≤ 2)) (tt := 30) (pc' := 24) rfl rfl (cd_eq) rfl (fun c2 => ?_) (fun c2 => ?_)
    · replace H := dz_it c2 H
      refine wp_s (i := .iconst (-1)) (n := 1) (pc' := 31) (st' := [dz_I (-1)]) rfl rfl ?_
      refine wq_ri rfl rfl ?_
      replace H := dz_sm H
      exact H
    · replace H := dz_if c2 H
      refine wp_s (i := .iload_n 3) (n := 1) (pc' := 25) (st' := [dz_I a3]) rfl rfl ?_
      refine wp_s (i := .bipush 40) (n := 2) (pc' := 27) (st' := [dz_I 40, dz_I a3]) rfl rfl ?_
      refine wq_ic (p := dz_c a3 ≤ 40) (tt := 32) (pc' := 30) rfl rfl (cq_le rfl dk_40) rfl (fun c3 => ?_) (fun c3 => ?_)
      · replace H := dz_it c3 H
        refine wp_s (i := .iload_n 3) (n := 1) (pc' := 33) (st' := [dz_I a3]) rfl rfl ?_
        refine wq_if (p := 0 ≤ dz_c a3) (tt := 39) (pc' := 36) rfl rfl (cz_ge rfl) rfl (fun c4 => ?_) (fun c4 => ?_)
        · replace H := dz_it c4 H
          refine wp_s (i := .aload_n 0) (n := 1) (pc' := 40) (st' := [.ref 114]) rfl rfl ?_
          refine wq_gr (idx := 68) (a := 134) (pc' := 43) rfl rfl ho_M rfl rfl ?_
          refine wp_s (i := .iload_n 1) (n := 1) (pc' := 44) (st' := [dz_I a1, .ref 134]) rfl rfl ?_
          refine wp_s (i := .iload_n 2) (n := 1) (pc' := 45) (st' := [dz_I a2, dz_I a1, .ref 134]) rfl rfl ?_
          obtain ⟨k5, H⟩ := dz_ck H
          refine wq_is (j' := dz_c a1) (x := a2) (pc' := 46) rfl ha_M_42 rfl k5.1 k5.2 rfl (fun Z6 eZ6 => ?_)
          replace H := dz_le H Z6 eZ6
          clear eZ6
          refine wp_s (i := .aload_n 0) (n := 1) (pc' := 47) (st' := [.ref 114]) rfl rfl ?_
          refine wq_gr (idx := 71) (a := 135) (pc' := 50) rfl rfl ho_M rfl rfl ?_
          refine wp_s (i := .iload_n 1) (n := 1) (pc' := 51) (st' := [dz_I a1, .ref 135]) rfl rfl ?_
          refine wp_s (i := .iload_n 3) (n := 1) (pc' := 52) (st' := [dz_I a3, dz_I a1, .ref 135]) rfl rfl ?_
          refine wq_is (j' := dz_c a1) (x := a3) (pc' := 53) rfl ha_M_43 rfl k5.1 k5.2 rfl (fun Z7 eZ7 => ?_)
          replace H := dz_le H Z7 eZ7
          clear eZ7
          refine wp_s (i := .iconst 0) (n := 1) (pc' := 54) (st' := [dz_I 0]) rfl rfl ?_
          refine wq_st (k := 4) (i := .istore 4) (n := 2) (ls' := [some (.ref 114), some (dz_I a1), some (dz_I a2), some (dz_I a3), some (dz_I 0)]) (pc' := 56) rfl rfl rfl rfl rfl ?_
          refine dz_lpi (P := fun (s8 : Int × dz_Z) => mm_Wp X (D + 1) mm_r187 56 [some (.ref 114), some (dz_I a1), some (dz_I a2), some (dz_I a3), some (dz_I s8.1)] [] (hz_0 s8.2) Q) (fun s8 H => ?_) 5000 (0, Z7) H
          refine wp_s (i := .iload 4) (n := 2) (pc' := 58) (st' := [dz_I s8.1]) rfl rfl ?_
          refine wp_s (i := .bipush 40) (n := 2) (pc' := 60) (st' := [dz_I 40, dz_I s8.1]) rfl rfl ?_
          refine wq_ic (p := 40 ≤ dz_c s8.1) (tt := 82) (pc' := 63) rfl rfl (cq_ge rfl dk_40) rfl (fun c9 => ?_) (fun c9 => ?_)
          · replace H := dz_it c9 H
            refine wp_s (i := .iconst 1) (n := 1) (pc' := 83) (st' := [dz_I 1]) rfl rfl ?_
            refine wq_ri rfl rfl ?_
            replace H := dz_out H
            replace H := dz_sm H
            exact H
          · replace H := dz_if c9 H
            refine wp_s (i := .aload_n 0) (n := 1) (pc' := 64) (st' := [.ref 114]) rfl rfl ?_
            refine wq_gr (idx := 74) (a := 136) (pc' := 67) rfl rfl ho_M rfl rfl ?_
            refine wp_s (i := .bipush 40) (n := 2) (pc' := 69) (st' := [dz_I 40, .ref 136]) rfl rfl ?_
            refine wp_s (i := .iload_n 1) (n := 1) (pc' := 70) (st' := [dz_I a1, dz_I 40, .ref 136]) rfl rfl ?_
            refine wq_2 (i := .imul) (z := 40 * a1) (pc' := 71) rfl rfl (op_mul _ _) rfl ?_
            refine wp_s (i := .iload 4) (n := 2) (pc' := 73) (st' := [dz_I s8.1, dz_I (40 * a1), .ref 136]) rfl rfl ?_
            refine wq_2 (i := .iadd) (z := (40 * a1) + s8.1) (pc' := 74) rfl rfl (op_add _ _) rfl ?_
            refine wp_s (i := .iconst 0) (n := 1) (pc' := 75) (st' := [dz_I 0, dz_I ((40 * a1) + s8.1), .ref 136]) rfl rfl ?_
            obtain ⟨k10, H⟩ := dz_ck H
            refine wq_is (j' := dz_c ((40 * a1) + s8.1)) (x := 0) (pc' := 76) rfl ha_M_44 rfl k10.1 k10.2 rfl (fun Z11 eZ11 => ?_)
            replace H := dz_le H Z11 eZ11
            clear eZ11
            refine wq_inc (k := 4) (d := 1) (x := s8.1) (ls' := [some (.ref 114), some (dz_I a1), some (dz_I a2), some (dz_I a3), some (dz_I (s8.1 + 1))]) (pc' := 79) rfl rfl rfl rfl ?_
            refine wp_s (i := .goto (-23)) (n := 3) (pc' := 56) (st' := []) rfl rfl ?_
            replace H := dz_back H
            exact H
        · replace H := dz_if c4 H
          refine wp_s (i := .bipush (-14)) (n := 2) (pc' := 38) (st' := [dz_I (-14)]) rfl rfl ?_
          refine wq_ri rfl rfl ?_
          replace H := dz_sm H
          exact H
      · replace H := dz_if c3 H
        refine wp_s (i := .iconst (-1)) (n := 1) (pc' := 31) (st' := [dz_I (-1)]) rfl rfl ?_
        refine wq_ri rfl rfl ?_
        replace H := dz_sm H
        exact H
-- 188
def jf_M_lay (a1 : Int) (a2 : Int) (a3 : Int) (Z : dz_Z) : Option (Int × dz_Z) := if 0 ≤ dz_c a1 ∧ dz_c a1 ≤ 3 then (if 0 ≤ dz_c a1 ∧ dz_c a1 < 4 then if dz_c (Z 114 42 (dz_c a1)) ≠ (-4) then (if 0 ≤ dz_c a2 ∧ dz_c a2 ≤ dz_c ((Z 114 43 (dz_c a1)) - 1) then (if dz_c (Z 114 42 (dz_c a1)) ≠ 0 then (if dz_c (Z 114 42 (dz_c a1)) ≠ 1 then (if 0 ≤ dz_c ((40 * a1) + a2) ∧ dz_c ((40 * a1) + a2) < 160 then dz_a (dz_u Z 114 44 (dz_c ((40 * a1) + a2)) a3) fun Z8 => some (1, Z8) else none) else (if 0 ≤ dz_c ((40 * a1) + a2) ∧ dz_c ((40 * a1) + a2) < 160 then dz_a (dz_u Z 114 44 (dz_c ((40 * a1) + a2)) (dz_sr (dz_sl a3 16) 16)) fun Z10 => some (1, Z10) else none)) else (if 0 ≤ dz_c ((40 * a1) + a2) ∧ dz_c ((40 * a1) + a2) < 160 then dz_a (dz_u Z 114 44 (dz_c ((40 * a1) + a2)) (dz_sr (dz_sl a3 24) 24)) fun Z12 => some (1, Z12) else none)) else (some ((-12), Z))) else (some ((-11), Z)) else none) else (some ((-1), Z))
set_option maxRecDepth 20000 in
theorem jw_M_lay {X : Option (List Int32)} {D : Nat} {Q : Option Value → mm_H → Prop} (a1 : Int) (a2 : Int) (a3 : Int) (Z : dz_Z) (H : dz_p (jf_M_lay a1 a2 a3 Z) (fun q => Q (some (dz_I q.1)) (hz_0 q.2))) : mm_Wp X (D + 1) mm_r188 0 [some (.ref 114), some (dz_I a1), some (dz_I a2), some (dz_I a3)] [] (hz_0 Z) Q := by
  unfold jf_M_lay at H
  refine wp_s (i := .iload_n 1) (n := 1) (pc' := 1) (st' := [dz_I a1]) rfl rfl ?_
  refine wq_3 (i := .i2l) (v' := dz_J (dz_c a1)) (pc' := 2) rfl rfl (oq_i2l' rfl) rfl ?_
  refine wp_s (i := .lconst 0) (n := 1) (pc' := 3) (st' := [dz_J 0, dz_J (dz_c a1)]) rfl rfl ?_
  refine wp_s (i := .ldc2_w 285) (n := 3) (pc' := 6) (st' := [dz_J 3, dz_J 0, dz_J (dz_c a1)]) rfl rfl ?_
  refine wq_cs (Dq := D) (r' := mm_r120) (as0 := [dz_J (dz_c a1), dz_J 0, dz_J 3]) (rest := []) (ls' := [some (dz_J (dz_c a1)), none, some (dz_J 0), none, some (dz_J 3), none]) (pc' := 9) rfl rfl (by decide) rfl rfl rfl rfl rfl ?_
  refine jw_in (a' := dz_c a1) (b' := 0) (c' := 3) (dz_lc _) (by decide) (by decide) ?_
  show mm_Wp X (D + 1) mm_r188 9 [some (.ref 114), some (dz_I a1), some (dz_I a2), some (dz_I a3)] [dz_B (decide (0 ≤ dz_c a1 ∧ dz_c a1 ≤ 3))] (hz_0 Z) Q
  refine wq_if (p := 0 ≤ dz_c a1 ∧ dz_c a1 ≤ 3) (tt := 14) (pc' := 12) rfl rfl (cd_ne) rfl (fun c1 => ?_) (fun c1 => ?_)
  · replace H := dz_it c1 H
    refine wp_s (i := .aload_n 0) (n := 1) (pc' := 15) (st' := [.ref 114]) rfl rfl ?_
    refine wq_gr (idx := 68) (a := 134) (pc' := 18) rfl rfl ho_M rfl rfl ?_
    refine wp_s (i := .iload_n 1) (n := 1) (pc' := 19) (st' := [dz_I a1, .ref 134]) rfl rfl ?_
    obtain ⟨k2, H⟩ := dz_ck H
    refine wq_ia (j' := dz_c a1) (pc' := 20) rfl ha_M_42 rfl k2.1 k2.2 rfl ?_
    refine wp_s (i := .bipush (-4)) (n := 2) (pc' := 22) (st' := [dz_I (-4), dz_I (Z 114 42 (dz_c a1))]) rfl rfl ?_
    refine wq_ic (p := dz_c (Z 114 42 (dz_c a1)) ≠ (-4)) (tt := 28) (pc' := 25) rfl rfl (cq_ne rfl dk_m4) rfl (fun c3 => ?_) (fun c3 => ?_)
    · replace H := dz_it c3 H
      refine wp_s (i := .iload_n 2) (n := 1) (pc' := 29) (st' := [dz_I a2]) rfl rfl ?_
      refine wq_3 (i := .i2l) (v' := dz_J (dz_c a2)) (pc' := 30) rfl rfl (oq_i2l' rfl) rfl ?_
      refine wp_s (i := .lconst 0) (n := 1) (pc' := 31) (st' := [dz_J 0, dz_J (dz_c a2)]) rfl rfl ?_
      refine wp_s (i := .aload_n 0) (n := 1) (pc' := 32) (st' := [.ref 114, dz_J 0, dz_J (dz_c a2)]) rfl rfl ?_
      refine wq_gr (idx := 71) (a := 135) (pc' := 35) rfl rfl ho_M rfl rfl ?_
      refine wp_s (i := .iload_n 1) (n := 1) (pc' := 36) (st' := [dz_I a1, .ref 135, dz_J 0, dz_J (dz_c a2)]) rfl rfl ?_
      refine wq_ia (j' := dz_c a1) (pc' := 37) rfl ha_M_43 rfl k2.1 k2.2 rfl ?_
      refine wp_s (i := .iconst 1) (n := 1) (pc' := 38) (st' := [dz_I 1, dz_I (Z 114 43 (dz_c a1)), dz_J 0, dz_J (dz_c a2)]) rfl rfl ?_
      refine wq_2 (i := .isub) (z := (Z 114 43 (dz_c a1)) - 1) (pc' := 39) rfl rfl (op_sub _ _) rfl ?_
      refine wq_3 (i := .i2l) (v' := dz_J (dz_c ((Z 114 43 (dz_c a1)) - 1))) (pc' := 40) rfl rfl (oq_i2l' rfl) rfl ?_
      refine wq_cs (Dq := D) (r' := mm_r120) (as0 := [dz_J (dz_c a2), dz_J 0, dz_J (dz_c ((Z 114 43 (dz_c a1)) - 1))]) (rest := []) (ls' := [some (dz_J (dz_c a2)), none, some (dz_J 0), none, some (dz_J (dz_c ((Z 114 43 (dz_c a1)) - 1))), none]) (pc' := 43) rfl rfl (by decide) rfl rfl rfl rfl rfl ?_
      refine jw_in (a' := dz_c a2) (b' := 0) (c' := dz_c ((Z 114 43 (dz_c a1)) - 1)) (dz_lc _) (by decide) (dz_lc _) ?_
      show mm_Wp X (D + 1) mm_r188 43 [some (.ref 114), some (dz_I a1), some (dz_I a2), some (dz_I a3)] [dz_B (decide (0 ≤ dz_c a2 ∧ dz_c a2 ≤ dz_c ((Z 114 43 (dz_c a1)) - 1)))] (hz_0 Z) Q
      refine wq_if (p := 0 ≤ dz_c a2 ∧ dz_c a2 ≤ dz_c ((Z 114 43 (dz_c a1)) - 1)) (tt := 49) (pc' := 46) rfl rfl (cd_ne) rfl (fun c4 => ?_) (fun c4 => ?_)
      · replace H := dz_it c4 H
        refine wp_s (i := .aload_n 0) (n := 1) (pc' := 50) (st' := [.ref 114]) rfl rfl ?_
        refine wq_gr (idx := 74) (a := 136) (pc' := 53) rfl rfl ho_M rfl rfl ?_
        refine wp_s (i := .bipush 40) (n := 2) (pc' := 55) (st' := [dz_I 40, .ref 136]) rfl rfl ?_
        refine wp_s (i := .iload_n 1) (n := 1) (pc' := 56) (st' := [dz_I a1, dz_I 40, .ref 136]) rfl rfl ?_
        refine wq_2 (i := .imul) (z := 40 * a1) (pc' := 57) rfl rfl (op_mul _ _) rfl ?_
        refine wp_s (i := .iload_n 2) (n := 1) (pc' := 58) (st' := [dz_I a2, dz_I (40 * a1), .ref 136]) rfl rfl ?_
        refine wq_2 (i := .iadd) (z := (40 * a1) + a2) (pc' := 59) rfl rfl (op_add _ _) rfl ?_
        refine wp_s (i := .aload_n 0) (n := 1) (pc' := 60) (st' := [.ref 114, dz_I ((40 * a1) + a2), .ref 136]) rfl rfl ?_
        refine wq_gr (idx := 68) (a := 134) (pc' := 63) rfl rfl ho_M rfl rfl ?_
        refine wp_s (i := .iload_n 1) (n := 1) (pc' := 64) (st' := [dz_I a1, .ref 134, dz_I ((40 * a1) + a2), .ref 136]) rfl rfl ?_
        refine wq_ia (j' := dz_c a1) (pc' := 65) rfl ha_M_42 rfl k2.1 k2.2 rfl ?_
        refine wq_if (p := dz_c (Z 114 42 (dz_c a1)) ≠ 0) (tt := 78) (pc' := 68) rfl rfl (cz_ne rfl) rfl (fun c5 => ?_) (fun c5 => ?_)
        · replace H := dz_it c5 H
          refine wp_s (i := .aload_n 0) (n := 1) (pc' := 79) (st' := [.ref 114, dz_I ((40 * a1) + a2), .ref 136]) rfl rfl ?_
          refine wq_gr (idx := 68) (a := 134) (pc' := 82) rfl rfl ho_M rfl rfl ?_
          refine wp_s (i := .iload_n 1) (n := 1) (pc' := 83) (st' := [dz_I a1, .ref 134, dz_I ((40 * a1) + a2), .ref 136]) rfl rfl ?_
          refine wq_ia (j' := dz_c a1) (pc' := 84) rfl ha_M_42 rfl k2.1 k2.2 rfl ?_
          refine wp_s (i := .iconst 1) (n := 1) (pc' := 85) (st' := [dz_I 1, dz_I (Z 114 42 (dz_c a1)), dz_I ((40 * a1) + a2), .ref 136]) rfl rfl ?_
          refine wq_ic (p := dz_c (Z 114 42 (dz_c a1)) ≠ 1) (tt := 98) (pc' := 88) rfl rfl (cq_ne rfl dk_1) rfl (fun c6 => ?_) (fun c6 => ?_)
          · replace H := dz_it c6 H
            refine wp_s (i := .iload_n 3) (n := 1) (pc' := 99) (st' := [dz_I a3, dz_I ((40 * a1) + a2), .ref 136]) rfl rfl ?_
            obtain ⟨k7, H⟩ := dz_ck H
            refine wq_is (j' := dz_c ((40 * a1) + a2)) (x := a3) (pc' := 100) rfl ha_M_44 rfl k7.1 k7.2 rfl (fun Z8 eZ8 => ?_)
            replace H := dz_le H Z8 eZ8
            clear eZ8
            refine wp_s (i := .iconst 1) (n := 1) (pc' := 101) (st' := [dz_I 1]) rfl rfl ?_
            refine wq_ri rfl rfl ?_
            replace H := dz_sm H
            exact H
          · replace H := dz_if c6 H
            refine wp_s (i := .iload_n 3) (n := 1) (pc' := 89) (st' := [dz_I a3, dz_I ((40 * a1) + a2), .ref 136]) rfl rfl ?_
            refine wp_s (i := .bipush 16) (n := 2) (pc' := 91) (st' := [dz_I 16, dz_I a3, dz_I ((40 * a1) + a2), .ref 136]) rfl rfl ?_
            refine wq_2 (i := .ishl) (z := dz_sl a3 16) (pc' := 92) rfl rfl (op_shl _ _) rfl ?_
            refine wp_s (i := .bipush 16) (n := 2) (pc' := 94) (st' := [dz_I 16, dz_I (dz_sl a3 16), dz_I ((40 * a1) + a2), .ref 136]) rfl rfl ?_
            refine wq_2 (i := .ishr) (z := dz_sr (dz_sl a3 16) 16) (pc' := 95) rfl rfl (op_shr _ _) rfl ?_
            refine wp_s (i := .goto 4) (n := 3) (pc' := 99) (st' := [dz_I (dz_sr (dz_sl a3 16) 16), dz_I ((40 * a1) + a2), .ref 136]) rfl rfl ?_
            obtain ⟨k9, H⟩ := dz_ck H
            refine wq_is (j' := dz_c ((40 * a1) + a2)) (x := dz_sr (dz_sl a3 16) 16) (pc' := 100) rfl ha_M_44 rfl k9.1 k9.2 rfl (fun Z10 eZ10 => ?_)
            replace H := dz_le H Z10 eZ10
            clear eZ10
            refine wp_s (i := .iconst 1) (n := 1) (pc' := 101) (st' := [dz_I 1]) rfl rfl ?_
            refine wq_ri rfl rfl ?_
            replace H := dz_sm H
            exact H
        · replace H := dz_if c5 H
          refine wp_s (i := .iload_n 3) (n := 1) (pc' := 69) (st' := [dz_I a3, dz_I ((40 * a1) + a2), .ref 136]) rfl rfl ?_
          refine wp_s (i := .bipush 24) (n := 2) (pc' := 71) (st' := [dz_I 24, dz_I a3, dz_I ((40 * a1) + a2), .ref 136]) rfl rfl ?_
          refine wq_2 (i := .ishl) (z := dz_sl a3 24) (pc' := 72) rfl rfl (op_shl _ _) rfl ?_
          refine wp_s (i := .bipush 24) (n := 2) (pc' := 74) (st' := [dz_I 24, dz_I (dz_sl a3 24), dz_I ((40 * a1) + a2), .ref 136]) rfl rfl ?_
          refine wq_2 (i := .ishr) (z := dz_sr (dz_sl a3 24) 24) (pc' := 75) rfl rfl (op_shr _ _) rfl ?_
          refine wp_s (i := .goto 24) (n := 3) (pc' := 99) (st' := [dz_I (dz_sr (dz_sl a3 24) 24), dz_I ((40 * a1) + a2), .ref 136]) rfl rfl ?_
          obtain ⟨k11, H⟩ := dz_ck H
          refine wq_is (j' := dz_c ((40 * a1) + a2)) (x := dz_sr (dz_sl a3 24) 24) (pc' := 100) rfl ha_M_44 rfl k11.1 k11.2 rfl (fun Z12 eZ12 => ?_)
          replace H := dz_le H Z12 eZ12
          clear eZ12
          refine wp_s (i := .iconst 1) (n := 1) (pc' := 101) (st' := [dz_I 1]) rfl rfl ?_
          refine wq_ri rfl rfl ?_
          replace H := dz_sm H
          exact H
      · replace H := dz_if c4 H
        refine wp_s (i := .bipush (-12)) (n := 2) (pc' := 48) (st' := [dz_I (-12)]) rfl rfl ?_
        refine wq_ri rfl rfl ?_
        replace H := dz_sm H
        exact H
    · replace H := dz_if c3 H
      refine wp_s (i := .bipush (-11)) (n := 2) (pc' := 27) (st' := [dz_I (-11)]) rfl rfl ?_
      refine wq_ri rfl rfl ?_
      replace H := dz_sm H
      exact H
  · replace H := dz_if c1 H
    refine wp_s (i := .iconst (-1)) (n := 1) (pc' := 13) (st' := [dz_I (-1)]) rfl rfl ?_
    refine wq_ri rfl rfl ?_
    replace H := dz_sm H
    exact H
-- 189
def jf_M_read (a1 : Int) (a2 : Int) (a3 : Int) (a4 : Int) (Z : dz_Z) : Option (Int × dz_Z) := if ¬(0 ≤ dz_c a1 ∧ dz_c a1 ≤ 3) then (some ((-1), Z)) else (if ¬(0 ≤ dz_c a2 ∧ dz_c a2 ≤ 2) then (some ((-1), Z)) else (if 0 ≤ dz_c a4 ∧ dz_c a4 ≤ 12 then (dz_lp (fun (s4 : Int × Int) => if dz_c a4 ≤ dz_c s4.2 then (dz_lp (fun (s6 : Int × dz_Z) => if dz_c s4.2 ≤ dz_c s6.1 then (dz_a (dz_u s6.2 114 45 0 s4.1) fun Z8 => some (Sum.inr (Sum.inr (s4.2, Z8)))) else (if 0 ≤ dz_c (((40 * a1) + a3) + s6.1) ∧ dz_c (((40 * a1) + a3) + s6.1) < 160 then Option.bind (jf_M_second 0 (s6.2 114 44 (dz_c (((40 * a1) + a3) + s6.1))) s6.2) fun q10 => some (Sum.inl (s6.1 + 1, q10.2)) else none)) 5000 (0, Z)) else (if dz_c s4.1 ≠ 0 then (dz_lp (fun (s12 : Int × dz_Z) => if dz_c s4.2 ≤ dz_c s12.1 then (dz_a (dz_u s12.2 114 45 0 s4.1) fun Z14 => some (Sum.inr (Sum.inr (s4.2, Z14)))) else (if 0 ≤ dz_c (((40 * a1) + a3) + s12.1) ∧ dz_c (((40 * a1) + a3) + s12.1) < 160 then Option.bind (jf_M_second 0 (s12.2 114 44 (dz_c (((40 * a1) + a3) + s12.1))) s12.2) fun q16 => some (Sum.inl (s12.1 + 1, q16.2)) else none)) 5000 (0, Z)) else (if 0 ≤ dz_c a1 ∧ dz_c a1 < 4 then Option.bind (α := Int) (if dz_c (Z 114 42 (dz_c a1)) ≠ (-4) then (if dz_c (Z 114 42 (dz_c a1)) = dz_c a2 then (if 0 ≤ (dz_c a3) + (dz_c s4.2) ∧ (dz_c a3) + (dz_c s4.2) ≤ dz_c ((Z 114 43 (dz_c a1)) - 1) then (some 0) else (some 2)) else (some 3)) else (some 1)) (fun (q21 : Int) => if dz_c q21 ≠ 0 then (if dz_c q21 ≠ 0 then (some (Sum.inl (q21, s4.2 + 0))) else (some (Sum.inl (q21, s4.2 + 1)))) else (if 0 ≤ dz_c (((40 * a1) + a3) + s4.2) ∧ dz_c (((40 * a1) + a3) + s4.2) < 160 then if 0 ≤ dz_c (Z 114 44 (dz_c (((40 * a1) + a3) + s4.2))) ∧ dz_c (Z 114 44 (dz_c (((40 * a1) + a3) + s4.2))) ≤ 9 then (if dz_c q21 ≠ 0 then (some (Sum.inl (q21, s4.2 + 0))) else (some (Sum.inl (q21, s4.2 + 1)))) else (some (Sum.inr ((-20) - s4.2, Z))) else none)) else none))) 5000 (0, 0)) else (some ((-1), Z))))
set_option maxRecDepth 20000 in
theorem jw_M_read {X : Option (List Int32)} {D : Nat} {Q : Option Value → mm_H → Prop} (a1 : Int) (a2 : Int) (a3 : Int) (a4 : Int) (Z : dz_Z) (H : dz_p (jf_M_read a1 a2 a3 a4 Z) (fun q => Q (some (dz_I q.1)) (hz_0 q.2))) : mm_Wp X (D + 3) mm_r189 0 [some (.ref 114), some (dz_I a1), some (dz_I a2), some (dz_I a3), some (dz_I a4), none, none, none] [] (hz_0 Z) Q := by
  unfold jf_M_read at H
  refine wp_s (i := .iload_n 1) (n := 1) (pc' := 1) (st' := [dz_I a1]) rfl rfl ?_
  refine wq_3 (i := .i2l) (v' := dz_J (dz_c a1)) (pc' := 2) rfl rfl (oq_i2l' rfl) rfl ?_
  refine wp_s (i := .lconst 0) (n := 1) (pc' := 3) (st' := [dz_J 0, dz_J (dz_c a1)]) rfl rfl ?_
  refine wp_s (i := .ldc2_w 285) (n := 3) (pc' := 6) (st' := [dz_J 3, dz_J 0, dz_J (dz_c a1)]) rfl rfl ?_
  refine wq_cs (Dq := (D + 2)) (r' := mm_r120) (as0 := [dz_J (dz_c a1), dz_J 0, dz_J 3]) (rest := []) (ls' := [some (dz_J (dz_c a1)), none, some (dz_J 0), none, some (dz_J 3), none]) (pc' := 9) rfl rfl (by decide) rfl rfl rfl rfl rfl ?_
  refine jw_in (a' := dz_c a1) (b' := 0) (c' := 3) (dz_lc _) (by decide) (by decide) ?_
  show mm_Wp X (D + 3) mm_r189 9 [some (.ref 114), some (dz_I a1), some (dz_I a2), some (dz_I a3), some (dz_I a4), none, none, none] [dz_B (decide (0 ≤ dz_c a1 ∧ dz_c a1 ≤ 3))] (hz_0 Z) Q
  refine wq_if (p := ¬(0 ≤ dz_c a1 ∧ dz_c a1 ≤ 3)) (tt := 37) (pc' := 12) rfl rfl (cd_eq) rfl (fun c1 => ?_) (fun c1 => ?_)
  · replace H := dz_it c1 H
    refine wp_s (i := .iconst (-1)) (n := 1) (pc' := 38) (st' := [dz_I (-1)]) rfl rfl ?_
    refine wq_ri rfl rfl ?_
    replace H := dz_sm H
    exact H
  · replace H := dz_if c1 H
    refine wp_s (i := .iload_n 2) (n := 1) (pc' := 13) (st' := [dz_I a2]) rfl rfl ?_
    refine wq_3 (i := .i2l) (v' := dz_J (dz_c a2)) (pc' := 14) rfl rfl (oq_i2l' rfl) rfl ?_
    refine wp_s (i := .lconst 0) (n := 1) (pc' := 15) (st' := [dz_J 0, dz_J (dz_c a2)]) rfl rfl ?_
    refine wp_s (i := .ldc2_w 198) (n := 3) (pc' := 18) (st' := [dz_J 2, dz_J 0, dz_J (dz_c a2)]) rfl rfl ?_
    refine wq_cs (Dq := (D + 2)) (r' := mm_r120) (as0 := [dz_J (dz_c a2), dz_J 0, dz_J 2]) (rest := []) (ls' := [some (dz_J (dz_c a2)), none, some (dz_J 0), none, some (dz_J 2), none]) (pc' := 21) rfl rfl (by decide) rfl rfl rfl rfl rfl ?_
    refine jw_in (a' := dz_c a2) (b' := 0) (c' := 2) (dz_lc _) (by decide) (by decide) ?_
    show mm_Wp X (D + 3) mm_r189 21 [some (.ref 114), some (dz_I a1), some (dz_I a2), some (dz_I a3), some (dz_I a4), none, none, none] [dz_B (decide (0 ≤ dz_c a2 ∧ dz_c a2 ≤ 2))] (hz_0 Z) Q
    refine wq_if (p := ¬(0 ≤ dz_c a2 ∧ dz_c a2 ≤ 2)) (tt := 37) (pc' := 24) rfl rfl (cd_eq) rfl (fun c2 => ?_) (fun c2 => ?_)
    · replace H := dz_it c2 H
      refine wp_s (i := .iconst (-1)) (n := 1) (pc' := 38) (st' := [dz_I (-1)]) rfl rfl ?_
      refine wq_ri rfl rfl ?_
      replace H := dz_sm H
      exact H
    · replace H := dz_if c2 H
      refine wp_s (i := .iload 4) (n := 2) (pc' := 26) (st' := [dz_I a4]) rfl rfl ?_
      refine wq_3 (i := .i2l) (v' := dz_J (dz_c a4)) (pc' := 27) rfl rfl (oq_i2l' rfl) rfl ?_
      refine wp_s (i := .lconst 0) (n := 1) (pc' := 28) (st' := [dz_J 0, dz_J (dz_c a4)]) rfl rfl ?_
      refine wp_s (i := .ldc2_w 277) (n := 3) (pc' := 31) (st' := [dz_J 12, dz_J 0, dz_J (dz_c a4)]) rfl rfl ?_
      refine wq_cs (Dq := (D + 2)) (r' := mm_r120) (as0 := [dz_J (dz_c a4), dz_J 0, dz_J 12]) (rest := []) (ls' := [some (dz_J (dz_c a4)), none, some (dz_J 0), none, some (dz_J 12), none]) (pc' := 34) rfl rfl (by decide) rfl rfl rfl rfl rfl ?_
      refine jw_in (a' := dz_c a4) (b' := 0) (c' := 12) (dz_lc _) (by decide) (by decide) ?_
      show mm_Wp X (D + 3) mm_r189 34 [some (.ref 114), some (dz_I a1), some (dz_I a2), some (dz_I a3), some (dz_I a4), none, none, none] [dz_B (decide (0 ≤ dz_c a4 ∧ dz_c a4 ≤ 12))] (hz_0 Z) Q
      refine wq_if (p := 0 ≤ dz_c a4 ∧ dz_c a4 ≤ 12) (tt := 39) (pc' := 37) rfl rfl (cd_ne) rfl (fun c3 => ?_) (fun c3 => ?_)
      · replace H := dz_it c3 H
        refine wp_s (i := .iconst 0) (n := 1) (pc' := 40) (st' := [dz_I 0]) rfl rfl ?_
        refine wq_st (k := 5) (i := .istore 5) (n := 2) (ls' := [some (.ref 114), some (dz_I a1), some (dz_I a2), some (dz_I a3), some (dz_I a4), some (dz_I 0), none, none]) (pc' := 42) rfl rfl rfl rfl rfl ?_
        refine wp_s (i := .iconst 0) (n := 1) (pc' := 43) (st' := [dz_I 0]) rfl rfl ?_
        refine wq_st (k := 6) (i := .istore 6) (n := 2) (ls' := [some (.ref 114), some (dz_I a1), some (dz_I a2), some (dz_I a3), some (dz_I a4), some (dz_I 0), some (dz_I 0), none]) (pc' := 45) rfl rfl rfl rfl rfl ?_
        refine dz_lpi (P := fun (s4 : Int × Int) => mm_Wp X (D + 3) mm_r189 45 [some (.ref 114), some (dz_I a1), some (dz_I a2), some (dz_I a3), some (dz_I a4), some (dz_I s4.1), some (dz_I s4.2), none] [] (hz_0 Z) Q) (fun s4 H => ?_) 5000 (0, 0) H
        refine wp_s (i := .iload 6) (n := 2) (pc' := 47) (st' := [dz_I s4.2]) rfl rfl ?_
        refine wp_s (i := .iload 4) (n := 2) (pc' := 49) (st' := [dz_I a4, dz_I s4.2]) rfl rfl ?_
        refine wq_ic (p := dz_c a4 ≤ dz_c s4.2) (tt := 169) (pc' := 52) rfl rfl (cq_ge rfl rfl) rfl (fun c5 => ?_) (fun c5 => ?_)
        · replace H := dz_it c5 H
          refine wp_s (i := .iconst 0) (n := 1) (pc' := 170) (st' := [dz_I 0]) rfl rfl ?_
          refine wq_st (k := 7) (i := .istore 7) (n := 2) (ls' := [some (.ref 114), some (dz_I a1), some (dz_I a2), some (dz_I a3), some (dz_I a4), some (dz_I s4.1), some (dz_I s4.2), some (dz_I 0)]) (pc' := 172) rfl rfl rfl rfl rfl ?_
          refine dz_lpi (P := fun (s6 : Int × dz_Z) => mm_Wp X (D + 3) mm_r189 172 [some (.ref 114), some (dz_I a1), some (dz_I a2), some (dz_I a3), some (dz_I a4), some (dz_I s4.1), some (dz_I s4.2), some (dz_I s6.1)] [] (hz_0 s6.2) Q) (fun s6 H => ?_) 5000 (0, Z) H
          refine wp_s (i := .iload 7) (n := 2) (pc' := 174) (st' := [dz_I s6.1]) rfl rfl ?_
          refine wp_s (i := .iload 6) (n := 2) (pc' := 176) (st' := [dz_I s4.2, dz_I s6.1]) rfl rfl ?_
          refine wq_ic (p := dz_c s4.2 ≤ dz_c s6.1) (tt := 205) (pc' := 179) rfl rfl (cq_ge rfl rfl) rfl (fun c7 => ?_) (fun c7 => ?_)
          · replace H := dz_it c7 H
            refine wp_s (i := .aload_n 0) (n := 1) (pc' := 206) (st' := [.ref 114]) rfl rfl ?_
            refine wp_s (i := .iload 5) (n := 2) (pc' := 208) (st' := [dz_I s4.1, .ref 114]) rfl rfl ?_
            refine wq_pi (idx := 287) (x := s4.1) (pc' := 211) rfl rfl rfl ho_M rfl rfl rfl rfl (fun Z8 eZ8 => ?_)
            replace H := dz_le H Z8 eZ8
            clear eZ8
            refine wp_s (i := .iload 6) (n := 2) (pc' := 213) (st' := [dz_I s4.2]) rfl rfl ?_
            refine wq_ri rfl rfl ?_
            replace H := dz_out H
            replace H := dz_out H
            replace H := dz_sm H
            exact H
          · replace H := dz_if c7 H
            refine wp_s (i := .aload_n 0) (n := 1) (pc' := 180) (st' := [.ref 114]) rfl rfl ?_
            refine wp_s (i := .iconst 0) (n := 1) (pc' := 181) (st' := [dz_I 0, .ref 114]) rfl rfl ?_
            refine wp_s (i := .aload_n 0) (n := 1) (pc' := 182) (st' := [.ref 114, dz_I 0, .ref 114]) rfl rfl ?_
            refine wq_gr (idx := 74) (a := 136) (pc' := 185) rfl rfl ho_M rfl rfl ?_
            refine wp_s (i := .bipush 40) (n := 2) (pc' := 187) (st' := [dz_I 40, .ref 136, dz_I 0, .ref 114]) rfl rfl ?_
            refine wp_s (i := .iload_n 1) (n := 1) (pc' := 188) (st' := [dz_I a1, dz_I 40, .ref 136, dz_I 0, .ref 114]) rfl rfl ?_
            refine wq_2 (i := .imul) (z := 40 * a1) (pc' := 189) rfl rfl (op_mul _ _) rfl ?_
            refine wp_s (i := .iload_n 3) (n := 1) (pc' := 190) (st' := [dz_I a3, dz_I (40 * a1), .ref 136, dz_I 0, .ref 114]) rfl rfl ?_
            refine wq_2 (i := .iadd) (z := (40 * a1) + a3) (pc' := 191) rfl rfl (op_add _ _) rfl ?_
            refine wp_s (i := .iload 7) (n := 2) (pc' := 193) (st' := [dz_I s6.1, dz_I ((40 * a1) + a3), .ref 136, dz_I 0, .ref 114]) rfl rfl ?_
            refine wq_2 (i := .iadd) (z := ((40 * a1) + a3) + s6.1) (pc' := 194) rfl rfl (op_add _ _) rfl ?_
            obtain ⟨k9, H⟩ := dz_ck H
            refine wq_ia (j' := dz_c (((40 * a1) + a3) + s6.1)) (pc' := 195) rfl ha_M_44 rfl k9.1 k9.2 rfl ?_
            refine wq_cv (Dq := (D + 2)) (r' := mm_r153) (as0 := [dz_I 0, dz_I (s6.2 114 44 (dz_c (((40 * a1) + a3) + s6.1)))]) (rest := []) (ls' := [some (.ref 114), some (dz_I 0), some (dz_I (s6.2 114 44 (dz_c (((40 * a1) + a3) + s6.1)))), none, none, none]) (pc' := 198) rfl rfl rfl rfl ho_M rfl rfl rfl ?_
            refine jw_M_second (X := X) (D := D + 0) 0 (s6.2 114 44 (dz_c (((40 * a1) + a3) + s6.1))) s6.2 (dz_pm (dz_bi H) (fun q10 H => ?_))
            show mm_Wp X (D + 3) mm_r189 198 [some (.ref 114), some (dz_I a1), some (dz_I a2), some (dz_I a3), some (dz_I a4), some (dz_I s4.1), some (dz_I s4.2), some (dz_I s6.1)] [dz_I q10.1] (hz_0 q10.2) Q
            refine wp_s (i := .pop) (n := 1) (pc' := 199) (st' := []) rfl rfl ?_
            refine wq_inc (k := 7) (d := 1) (x := s6.1) (ls' := [some (.ref 114), some (dz_I a1), some (dz_I a2), some (dz_I a3), some (dz_I a4), some (dz_I s4.1), some (dz_I s4.2), some (dz_I (s6.1 + 1))]) (pc' := 202) rfl rfl rfl rfl ?_
            refine wp_s (i := .goto (-30)) (n := 3) (pc' := 172) (st' := []) rfl rfl ?_
            replace H := dz_back H
            exact H
        · replace H := dz_if c5 H
          refine wp_s (i := .iload 5) (n := 2) (pc' := 54) (st' := [dz_I s4.1]) rfl rfl ?_
          refine wq_if (p := dz_c s4.1 ≠ 0) (tt := 169) (pc' := 57) rfl rfl (cz_ne rfl) rfl (fun c11 => ?_) (fun c11 => ?_)
          · replace H := dz_it c11 H
            refine wp_s (i := .iconst 0) (n := 1) (pc' := 170) (st' := [dz_I 0]) rfl rfl ?_
            refine wq_st (k := 7) (i := .istore 7) (n := 2) (ls' := [some (.ref 114), some (dz_I a1), some (dz_I a2), some (dz_I a3), some (dz_I a4), some (dz_I s4.1), some (dz_I s4.2), some (dz_I 0)]) (pc' := 172) rfl rfl rfl rfl rfl ?_
            refine dz_lpi (P := fun (s12 : Int × dz_Z) => mm_Wp X (D + 3) mm_r189 172 [some (.ref 114), some (dz_I a1), some (dz_I a2), some (dz_I a3), some (dz_I a4), some (dz_I s4.1), some (dz_I s4.2), some (dz_I s12.1)] [] (hz_0 s12.2) Q) (fun s12 H => ?_) 5000 (0, Z) H
            refine wp_s (i := .iload 7) (n := 2) (pc' := 174) (st' := [dz_I s12.1]) rfl rfl ?_
            refine wp_s (i := .iload 6) (n := 2) (pc' := 176) (st' := [dz_I s4.2, dz_I s12.1]) rfl rfl ?_
            refine wq_ic (p := dz_c s4.2 ≤ dz_c s12.1) (tt := 205) (pc' := 179) rfl rfl (cq_ge rfl rfl) rfl (fun c13 => ?_) (fun c13 => ?_)
            · replace H := dz_it c13 H
              refine wp_s (i := .aload_n 0) (n := 1) (pc' := 206) (st' := [.ref 114]) rfl rfl ?_
              refine wp_s (i := .iload 5) (n := 2) (pc' := 208) (st' := [dz_I s4.1, .ref 114]) rfl rfl ?_
              refine wq_pi (idx := 287) (x := s4.1) (pc' := 211) rfl rfl rfl ho_M rfl rfl rfl rfl (fun Z14 eZ14 => ?_)
              replace H := dz_le H Z14 eZ14
              clear eZ14
              refine wp_s (i := .iload 6) (n := 2) (pc' := 213) (st' := [dz_I s4.2]) rfl rfl ?_
              refine wq_ri rfl rfl ?_
              replace H := dz_out H
              replace H := dz_out H
              replace H := dz_sm H
              exact H
            · replace H := dz_if c13 H
              refine wp_s (i := .aload_n 0) (n := 1) (pc' := 180) (st' := [.ref 114]) rfl rfl ?_
              refine wp_s (i := .iconst 0) (n := 1) (pc' := 181) (st' := [dz_I 0, .ref 114]) rfl rfl ?_
              refine wp_s (i := .aload_n 0) (n := 1) (pc' := 182) (st' := [.ref 114, dz_I 0, .ref 114]) rfl rfl ?_
              refine wq_gr (idx := 74) (a := 136) (pc' := 185) rfl rfl ho_M rfl rfl ?_
              refine wp_s (i := .bipush 40) (n := 2) (pc' := 187) (st' := [dz_I 40, .ref 136, dz_I 0, .ref 114]) rfl rfl ?_
              refine wp_s (i := .iload_n 1) (n := 1) (pc' := 188) (st' := [dz_I a1, dz_I 40, .ref 136, dz_I 0, .ref 114]) rfl rfl ?_
              refine wq_2 (i := .imul) (z := 40 * a1) (pc' := 189) rfl rfl (op_mul _ _) rfl ?_
              refine wp_s (i := .iload_n 3) (n := 1) (pc' := 190) (st' := [dz_I a3, dz_I (40 * a1), .ref 136, dz_I 0, .ref 114]) rfl rfl ?_
              refine wq_2 (i := .iadd) (z := (40 * a1) + a3) (pc' := 191) rfl rfl (op_add _ _) rfl ?_
              refine wp_s (i := .iload 7) (n := 2) (pc' := 193) (st' := [dz_I s12.1, dz_I ((40 * a1) + a3), .ref 136, dz_I 0, .ref 114]) rfl rfl ?_
              refine wq_2 (i := .iadd) (z := ((40 * a1) + a3) + s12.1) (pc' := 194) rfl rfl (op_add _ _) rfl ?_
              obtain ⟨k15, H⟩ := dz_ck H
              refine wq_ia (j' := dz_c (((40 * a1) + a3) + s12.1)) (pc' := 195) rfl ha_M_44 rfl k15.1 k15.2 rfl ?_
              refine wq_cv (Dq := (D + 2)) (r' := mm_r153) (as0 := [dz_I 0, dz_I (s12.2 114 44 (dz_c (((40 * a1) + a3) + s12.1)))]) (rest := []) (ls' := [some (.ref 114), some (dz_I 0), some (dz_I (s12.2 114 44 (dz_c (((40 * a1) + a3) + s12.1)))), none, none, none]) (pc' := 198) rfl rfl rfl rfl ho_M rfl rfl rfl ?_
              refine jw_M_second (X := X) (D := D + 0) 0 (s12.2 114 44 (dz_c (((40 * a1) + a3) + s12.1))) s12.2 (dz_pm (dz_bi H) (fun q16 H => ?_))
              show mm_Wp X (D + 3) mm_r189 198 [some (.ref 114), some (dz_I a1), some (dz_I a2), some (dz_I a3), some (dz_I a4), some (dz_I s4.1), some (dz_I s4.2), some (dz_I s12.1)] [dz_I q16.1] (hz_0 q16.2) Q
              refine wp_s (i := .pop) (n := 1) (pc' := 199) (st' := []) rfl rfl ?_
              refine wq_inc (k := 7) (d := 1) (x := s12.1) (ls' := [some (.ref 114), some (dz_I a1), some (dz_I a2), some (dz_I a3), some (dz_I a4), some (dz_I s4.1), some (dz_I s4.2), some (dz_I (s12.1 + 1))]) (pc' := 202) rfl rfl rfl rfl ?_
              refine wp_s (i := .goto (-30)) (n := 3) (pc' := 172) (st' := []) rfl rfl ?_
              replace H := dz_back H
              exact H
          · replace H := dz_if c11 H
            refine wp_s (i := .aload_n 0) (n := 1) (pc' := 58) (st' := [.ref 114]) rfl rfl ?_
            refine wq_gr (idx := 68) (a := 134) (pc' := 61) rfl rfl ho_M rfl rfl ?_
            refine wp_s (i := .iload_n 1) (n := 1) (pc' := 62) (st' := [dz_I a1, .ref 134]) rfl rfl ?_
            obtain ⟨k17, H⟩ := dz_ck H
            refine wq_ia (j' := dz_c a1) (pc' := 63) rfl ha_M_42 rfl k17.1 k17.2 rfl ?_
            refine wp_s (i := .bipush (-4)) (n := 2) (pc' := 65) (st' := [dz_I (-4), dz_I (Z 114 42 (dz_c a1))]) rfl rfl ?_
            refine dz_jn (P := fun (q21 : Int) => mm_Wp X (D + 3) mm_r189 113 [some (.ref 114), some (dz_I a1), some (dz_I a2), some (dz_I a3), some (dz_I a4), some (dz_I s4.1), some (dz_I s4.2), none] [dz_I q21] (hz_0 Z) Q) (dz_bi H) (fun q21 H => ?_) (fun H => ?_)
            · skip
              refine wq_st (k := 5) (i := .istore 5) (n := 2) (ls' := [some (.ref 114), some (dz_I a1), some (dz_I a2), some (dz_I a3), some (dz_I a4), some (dz_I q21), some (dz_I s4.2), none]) (pc' := 115) rfl rfl rfl rfl rfl ?_
              refine wp_s (i := .iload 5) (n := 2) (pc' := 117) (st' := [dz_I q21]) rfl rfl ?_
              refine wq_if (p := dz_c q21 ≠ 0) (tt := 151) (pc' := 120) rfl rfl (cz_ne rfl) rfl (fun c22 => ?_) (fun c22 => ?_)
              · replace H := dz_it c22 H
                refine wp_s (i := .iload 6) (n := 2) (pc' := 153) (st' := [dz_I s4.2]) rfl rfl ?_
                refine wp_s (i := .iload 5) (n := 2) (pc' := 155) (st' := [dz_I q21, dz_I s4.2]) rfl rfl ?_
                refine wq_if (p := dz_c q21 ≠ 0) (tt := 162) (pc' := 158) rfl rfl (cz_ne rfl) rfl (fun c23 => ?_) (fun c23 => ?_)
                · replace H := dz_it c23 H
                  refine wp_s (i := .iconst 0) (n := 1) (pc' := 163) (st' := [dz_I 0, dz_I s4.2]) rfl rfl ?_
                  refine wq_2 (i := .iadd) (z := s4.2 + 0) (pc' := 164) rfl rfl (op_add _ _) rfl ?_
                  refine wq_st (k := 6) (i := .istore 6) (n := 2) (ls' := [some (.ref 114), some (dz_I a1), some (dz_I a2), some (dz_I a3), some (dz_I a4), some (dz_I q21), some (dz_I (s4.2 + 0)), none]) (pc' := 166) rfl rfl rfl rfl rfl ?_
                  refine wp_s (i := .goto (-121)) (n := 3) (pc' := 45) (st' := []) rfl rfl ?_
                  replace H := dz_back H
                  exact H
                · replace H := dz_if c23 H
                  refine wp_s (i := .iconst 1) (n := 1) (pc' := 159) (st' := [dz_I 1, dz_I s4.2]) rfl rfl ?_
                  refine wp_s (i := .goto 4) (n := 3) (pc' := 163) (st' := [dz_I 1, dz_I s4.2]) rfl rfl ?_
                  refine wq_2 (i := .iadd) (z := s4.2 + 1) (pc' := 164) rfl rfl (op_add _ _) rfl ?_
                  refine wq_st (k := 6) (i := .istore 6) (n := 2) (ls' := [some (.ref 114), some (dz_I a1), some (dz_I a2), some (dz_I a3), some (dz_I a4), some (dz_I q21), some (dz_I (s4.2 + 1)), none]) (pc' := 166) rfl rfl rfl rfl rfl ?_
                  refine wp_s (i := .goto (-121)) (n := 3) (pc' := 45) (st' := []) rfl rfl ?_
                  replace H := dz_back H
                  exact H
              · replace H := dz_if c22 H
                refine wp_s (i := .aload_n 0) (n := 1) (pc' := 121) (st' := [.ref 114]) rfl rfl ?_
                refine wq_gr (idx := 74) (a := 136) (pc' := 124) rfl rfl ho_M rfl rfl ?_
                refine wp_s (i := .bipush 40) (n := 2) (pc' := 126) (st' := [dz_I 40, .ref 136]) rfl rfl ?_
                refine wp_s (i := .iload_n 1) (n := 1) (pc' := 127) (st' := [dz_I a1, dz_I 40, .ref 136]) rfl rfl ?_
                refine wq_2 (i := .imul) (z := 40 * a1) (pc' := 128) rfl rfl (op_mul _ _) rfl ?_
                refine wp_s (i := .iload_n 3) (n := 1) (pc' := 129) (st' := [dz_I a3, dz_I (40 * a1), .ref 136]) rfl rfl ?_
                refine wq_2 (i := .iadd) (z := (40 * a1) + a3) (pc' := 130) rfl rfl (op_add _ _) rfl ?_
                refine wp_s (i := .iload 6) (n := 2) (pc' := 132) (st' := [dz_I s4.2, dz_I ((40 * a1) + a3), .ref 136]) rfl rfl ?_
                refine wq_2 (i := .iadd) (z := ((40 * a1) + a3) + s4.2) (pc' := 133) rfl rfl (op_add _ _) rfl ?_
                obtain ⟨k24, H⟩ := dz_ck H
                refine wq_ia (j' := dz_c (((40 * a1) + a3) + s4.2)) (pc' := 134) rfl ha_M_44 rfl k24.1 k24.2 rfl ?_
                refine wq_3 (i := .i2l) (v' := dz_J (dz_c (Z 114 44 (dz_c (((40 * a1) + a3) + s4.2))))) (pc' := 135) rfl rfl (oq_i2l' rfl) rfl ?_
                refine wp_s (i := .lconst 0) (n := 1) (pc' := 136) (st' := [dz_J 0, dz_J (dz_c (Z 114 44 (dz_c (((40 * a1) + a3) + s4.2))))]) rfl rfl ?_
                refine wp_s (i := .ldc2_w 223) (n := 3) (pc' := 139) (st' := [dz_J 9, dz_J 0, dz_J (dz_c (Z 114 44 (dz_c (((40 * a1) + a3) + s4.2))))]) rfl rfl ?_
                refine wq_cs (Dq := (D + 2)) (r' := mm_r120) (as0 := [dz_J (dz_c (Z 114 44 (dz_c (((40 * a1) + a3) + s4.2)))), dz_J 0, dz_J 9]) (rest := []) (ls' := [some (dz_J (dz_c (Z 114 44 (dz_c (((40 * a1) + a3) + s4.2))))), none, some (dz_J 0), none, some (dz_J 9), none]) (pc' := 142) rfl rfl (by decide) rfl rfl rfl rfl rfl ?_
                refine jw_in (a' := dz_c (Z 114 44 (dz_c (((40 * a1) + a3) + s4.2)))) (b' := 0) (c' := 9) (dz_lc _) (by decide) (by decide) ?_
                show mm_Wp X (D + 3) mm_r189 142 [some (.ref 114), some (dz_I a1), some (dz_I a2), some (dz_I a3), some (dz_I a4), some (dz_I q21), some (dz_I s4.2), none] [dz_B (decide (0 ≤ dz_c (Z 114 44 (dz_c (((40 * a1) + a3) + s4.2))) ∧ dz_c (Z 114 44 (dz_c (((40 * a1) + a3) + s4.2))) ≤ 9))] (hz_0 Z) Q
                refine wq_if (p := 0 ≤ dz_c (Z 114 44 (dz_c (((40 * a1) + a3) + s4.2))) ∧ dz_c (Z 114 44 (dz_c (((40 * a1) + a3) + s4.2))) ≤ 9) (tt := 151) (pc' := 145) rfl rfl (cd_ne) rfl (fun c25 => ?_) (fun c25 => ?_)
                · replace H := dz_it c25 H
                  refine wp_s (i := .iload 6) (n := 2) (pc' := 153) (st' := [dz_I s4.2]) rfl rfl ?_
                  refine wp_s (i := .iload 5) (n := 2) (pc' := 155) (st' := [dz_I q21, dz_I s4.2]) rfl rfl ?_
                  refine wq_if (p := dz_c q21 ≠ 0) (tt := 162) (pc' := 158) rfl rfl (cz_ne rfl) rfl (fun c26 => ?_) (fun c26 => ?_)
                  · replace H := dz_it c26 H
                    refine wp_s (i := .iconst 0) (n := 1) (pc' := 163) (st' := [dz_I 0, dz_I s4.2]) rfl rfl ?_
                    refine wq_2 (i := .iadd) (z := s4.2 + 0) (pc' := 164) rfl rfl (op_add _ _) rfl ?_
                    refine wq_st (k := 6) (i := .istore 6) (n := 2) (ls' := [some (.ref 114), some (dz_I a1), some (dz_I a2), some (dz_I a3), some (dz_I a4), some (dz_I q21), some (dz_I (s4.2 + 0)), none]) (pc' := 166) rfl rfl rfl rfl rfl ?_
                    refine wp_s (i := .goto (-121)) (n := 3) (pc' := 45) (st' := []) rfl rfl ?_
                    replace H := dz_back H
                    exact H
                  · replace H := dz_if c26 H
                    refine wp_s (i := .iconst 1) (n := 1) (pc' := 159) (st' := [dz_I 1, dz_I s4.2]) rfl rfl ?_
                    refine wp_s (i := .goto 4) (n := 3) (pc' := 163) (st' := [dz_I 1, dz_I s4.2]) rfl rfl ?_
                    refine wq_2 (i := .iadd) (z := s4.2 + 1) (pc' := 164) rfl rfl (op_add _ _) rfl ?_
                    refine wq_st (k := 6) (i := .istore 6) (n := 2) (ls' := [some (.ref 114), some (dz_I a1), some (dz_I a2), some (dz_I a3), some (dz_I a4), some (dz_I q21), some (dz_I (s4.2 + 1)), none]) (pc' := 166) rfl rfl rfl rfl rfl ?_
                    refine wp_s (i := .goto (-121)) (n := 3) (pc' := 45) (st' := []) rfl rfl ?_
                    replace H := dz_back H
                    exact H
                · replace H := dz_if c25 H
                  refine wp_s (i := .bipush (-20)) (n := 2) (pc' := 147) (st' := [dz_I (-20)]) rfl rfl ?_
                  refine wp_s (i := .iload 6) (n := 2) (pc' := 149) (st' := [dz_I s4.2, dz_I (-20)]) rfl rfl ?_
                  refine wq_2 (i := .isub) (z := (-20) - s4.2) (pc' := 150) rfl rfl (op_sub _ _) rfl ?_
                  refine wq_ri rfl rfl ?_
                  replace H := dz_out H
                  replace H := dz_sm H
                  exact H
            · skip
              refine wq_ic (p := dz_c (Z 114 42 (dz_c a1)) ≠ (-4)) (tt := 72) (pc' := 68) rfl rfl (cq_ne rfl dk_m4) rfl (fun c27 => ?_) (fun c27 => ?_)
              · replace H := dz_it c27 H
                refine wp_s (i := .aload_n 0) (n := 1) (pc' := 73) (st' := [.ref 114]) rfl rfl ?_
                refine wq_gr (idx := 68) (a := 134) (pc' := 76) rfl rfl ho_M rfl rfl ?_
                refine wp_s (i := .iload_n 1) (n := 1) (pc' := 77) (st' := [dz_I a1, .ref 134]) rfl rfl ?_
                refine wq_ia (j' := dz_c a1) (pc' := 78) rfl ha_M_42 rfl k17.1 k17.2 rfl ?_
                refine wp_s (i := .iload_n 2) (n := 1) (pc' := 79) (st' := [dz_I a2, dz_I (Z 114 42 (dz_c a1))]) rfl rfl ?_
                refine wq_ic (p := dz_c (Z 114 42 (dz_c a1)) = dz_c a2) (tt := 86) (pc' := 82) rfl rfl (cq_eq rfl rfl) rfl (fun c28 => ?_) (fun c28 => ?_)
                · replace H := dz_it c28 H
                  refine wp_s (i := .iload_n 3) (n := 1) (pc' := 87) (st' := [dz_I a3]) rfl rfl ?_
                  refine wq_3 (i := .i2l) (v' := dz_J (dz_c a3)) (pc' := 88) rfl rfl (oq_i2l' rfl) rfl ?_
                  refine wp_s (i := .iload 6) (n := 2) (pc' := 90) (st' := [dz_I s4.2, dz_J (dz_c a3)]) rfl rfl ?_
                  refine wq_3 (i := .i2l) (v' := dz_J (dz_c s4.2)) (pc' := 91) rfl rfl (oq_i2l' rfl) rfl ?_
                  refine wq_4 (i := .ladd) (v' := dz_J ((dz_c a3) + (dz_c s4.2))) (pc' := 92) rfl rfl (ol_add _ _) rfl ?_
                  refine wp_s (i := .lconst 0) (n := 1) (pc' := 93) (st' := [dz_J 0, dz_J ((dz_c a3) + (dz_c s4.2))]) rfl rfl ?_
                  refine wp_s (i := .aload_n 0) (n := 1) (pc' := 94) (st' := [.ref 114, dz_J 0, dz_J ((dz_c a3) + (dz_c s4.2))]) rfl rfl ?_
                  refine wq_gr (idx := 71) (a := 135) (pc' := 97) rfl rfl ho_M rfl rfl ?_
                  refine wp_s (i := .iload_n 1) (n := 1) (pc' := 98) (st' := [dz_I a1, .ref 135, dz_J 0, dz_J ((dz_c a3) + (dz_c s4.2))]) rfl rfl ?_
                  refine wq_ia (j' := dz_c a1) (pc' := 99) rfl ha_M_43 rfl k17.1 k17.2 rfl ?_
                  refine wp_s (i := .iconst 1) (n := 1) (pc' := 100) (st' := [dz_I 1, dz_I (Z 114 43 (dz_c a1)), dz_J 0, dz_J ((dz_c a3) + (dz_c s4.2))]) rfl rfl ?_
                  refine wq_2 (i := .isub) (z := (Z 114 43 (dz_c a1)) - 1) (pc' := 101) rfl rfl (op_sub _ _) rfl ?_
                  refine wq_3 (i := .i2l) (v' := dz_J (dz_c ((Z 114 43 (dz_c a1)) - 1))) (pc' := 102) rfl rfl (oq_i2l' rfl) rfl ?_
                  refine wq_cs (Dq := (D + 2)) (r' := mm_r120) (as0 := [dz_J ((dz_c a3) + (dz_c s4.2)), dz_J 0, dz_J (dz_c ((Z 114 43 (dz_c a1)) - 1))]) (rest := []) (ls' := [some (dz_J ((dz_c a3) + (dz_c s4.2))), none, some (dz_J 0), none, some (dz_J (dz_c ((Z 114 43 (dz_c a1)) - 1))), none]) (pc' := 105) rfl rfl (by decide) rfl rfl rfl rfl rfl ?_
                  refine jw_in (a' := (dz_c a3) + (dz_c s4.2)) (b' := 0) (c' := dz_c ((Z 114 43 (dz_c a1)) - 1)) (dz_lcc _ _) (by decide) (dz_lc _) ?_
                  show mm_Wp X (D + 3) mm_r189 105 [some (.ref 114), some (dz_I a1), some (dz_I a2), some (dz_I a3), some (dz_I a4), some (dz_I s4.1), some (dz_I s4.2), none] [dz_B (decide (0 ≤ (dz_c a3) + (dz_c s4.2) ∧ (dz_c a3) + (dz_c s4.2) ≤ dz_c ((Z 114 43 (dz_c a1)) - 1)))] (hz_0 Z) Q
                  refine wq_if (p := 0 ≤ (dz_c a3) + (dz_c s4.2) ∧ (dz_c a3) + (dz_c s4.2) ≤ dz_c ((Z 114 43 (dz_c a1)) - 1)) (tt := 112) (pc' := 108) rfl rfl (cd_ne) rfl (fun c29 => ?_) (fun c29 => ?_)
                  · replace H := dz_it c29 H
                    refine wp_s (i := .iconst 0) (n := 1) (pc' := 113) (st' := [dz_I 0]) rfl rfl ?_
                    replace H := dz_sm H
                    exact H
                  · replace H := dz_if c29 H
                    refine wp_s (i := .iconst 2) (n := 1) (pc' := 109) (st' := [dz_I 2]) rfl rfl ?_
                    refine wp_s (i := .goto 4) (n := 3) (pc' := 113) (st' := [dz_I 2]) rfl rfl ?_
                    replace H := dz_sm H
                    exact H
                · replace H := dz_if c28 H
                  refine wp_s (i := .iconst 3) (n := 1) (pc' := 83) (st' := [dz_I 3]) rfl rfl ?_
                  refine wp_s (i := .goto 30) (n := 3) (pc' := 113) (st' := [dz_I 3]) rfl rfl ?_
                  replace H := dz_sm H
                  exact H
              · replace H := dz_if c27 H
                refine wp_s (i := .iconst 1) (n := 1) (pc' := 69) (st' := [dz_I 1]) rfl rfl ?_
                refine wp_s (i := .goto 44) (n := 3) (pc' := 113) (st' := [dz_I 1]) rfl rfl ?_
                replace H := dz_sm H
                exact H
      · replace H := dz_if c3 H
        refine wp_s (i := .iconst (-1)) (n := 1) (pc' := 38) (st' := [dz_I (-1)]) rfl rfl ?_
        refine wq_ri rfl rfl ?_
        replace H := dz_sm H
        exact H
-- 190
def jf_M_torn (Z : dz_Z) : Option (Int) := some (Z 114 45 0)
set_option maxRecDepth 20000 in
theorem jw_M_torn {X : Option (List Int32)} {D : Nat} {Q : Option Value → mm_H → Prop} (Z : dz_Z) (H : dz_p (jf_M_torn Z) (fun q => Q (some (dz_I q)) (hz_0 Z))) : mm_Wp X D mm_r190 0 [some (.ref 114)] [] (hz_0 Z) Q := by
  unfold jf_M_torn at H
  refine wp_s (i := .aload_n 0) (n := 1) (pc' := 1) (st' := [.ref 114]) rfl rfl ?_
  refine wq_gi (idx := 287) (pc' := 4) rfl rfl ho_M rfl rfl ?_
  refine wq_ri rfl rfl ?_
  replace H := dz_sm H
  exact H
end mg_25m14
section mg_25m15
-- 191
def jf_M_count (a1 : Int) (Z : dz_Z) : Option (Int) := dz_lp (fun (s1 : Int × Int) => if 5 ≤ dz_c s1.2 then (if dz_c a1 = 0 then (some (Sum.inr s1.1)) else (if dz_c a1 = 1 then (Option.bind (jf_M_sumOf 0 118 Z) fun q5 => some (Sum.inr q5)) else (if dz_c a1 = 2 then (Option.bind (α := Int) (if dz_c (Z 114 41 0) = 0 then (some 0) else (some 1)) (fun (q8 : Int) => if dz_c (Z 114 41 1) = 0 then (some (Sum.inr (q8 + 0))) else (some (Sum.inr (q8 + 1))))) else (if dz_c a1 = 3 then (some (Sum.inr (Z 114 22 0))) else (if dz_c a1 = 4 then (if dz_c (Z 114 42 0) ≠ (-4) then (some (Sum.inr (Z 114 43 0))) else (some (Sum.inr (-4)))) else (some (Sum.inr (-1)))))))) else (if 0 ≤ dz_c (5 + s1.2) ∧ dz_c (5 + s1.2) < 700 then some (Sum.inl (s1.1 + (Z 114 0 (dz_c (5 + s1.2))), s1.2 + 1)) else none)) 5000 (0, 0)
set_option maxRecDepth 20000 in
theorem jw_M_count {X : Option (List Int32)} {D : Nat} {Q : Option Value → mm_H → Prop} (a1 : Int) (Z : dz_Z) (H : dz_p (jf_M_count a1 Z) (fun q => Q (some (dz_I q)) (hz_0 Z))) : mm_Wp X (D + 1) mm_r191 0 [some (.ref 114), some (dz_I a1), none, none] [] (hz_0 Z) Q := by
  unfold jf_M_count at H
  refine wp_s (i := .iconst 0) (n := 1) (pc' := 1) (st' := [dz_I 0]) rfl rfl ?_
  refine wq_st (k := 2) (i := .istore_n 2) (n := 1) (ls' := [some (.ref 114), some (dz_I a1), some (dz_I 0), none]) (pc' := 2) rfl rfl rfl rfl rfl ?_
  refine wp_s (i := .iconst 0) (n := 1) (pc' := 3) (st' := [dz_I 0]) rfl rfl ?_
  refine wq_st (k := 3) (i := .istore_n 3) (n := 1) (ls' := [some (.ref 114), some (dz_I a1), some (dz_I 0), some (dz_I 0)]) (pc' := 4) rfl rfl rfl rfl rfl ?_
  refine dz_lpi (P := fun (s1 : Int × Int) => mm_Wp X (D + 1) mm_r191 4 [some (.ref 114), some (dz_I a1), some (dz_I s1.1), some (dz_I s1.2)] [] (hz_0 Z) Q) (fun s1 H => ?_) 5000 (0, 0) H
  refine wp_s (i := .iload_n 3) (n := 1) (pc' := 5) (st' := [dz_I s1.2]) rfl rfl ?_
  refine wp_s (i := .iconst 5) (n := 1) (pc' := 6) (st' := [dz_I 5, dz_I s1.2]) rfl rfl ?_
  refine wq_ic (p := 5 ≤ dz_c s1.2) (tt := 26) (pc' := 9) rfl rfl (cq_ge rfl dk_5) rfl (fun c2 => ?_) (fun c2 => ?_)
  · replace H := dz_it c2 H
    refine wp_s (i := .iload_n 1) (n := 1) (pc' := 27) (st' := [dz_I a1]) rfl rfl ?_
    by_cases c3 : dz_c a1 = 0
    · replace H := dz_it c3 H
      refine wq_ts (x' := dz_c a1) (tt := 60) rfl rfl (by rw [c3]; rfl) ?_
      refine wp_s (i := .iload_n 2) (n := 1) (pc' := 61) (st' := [dz_I s1.1]) rfl rfl ?_
      refine wq_ri rfl rfl ?_
      replace H := dz_out H
      replace H := dz_sm H
      exact H
    · replace H := dz_if c3 H
      by_cases c4 : dz_c a1 = 1
      · replace H := dz_it c4 H
        refine wq_ts (x' := dz_c a1) (tt := 62) rfl rfl (by rw [c4]; rfl) ?_
        refine wp_s (i := .aload_n 0) (n := 1) (pc' := 63) (st' := [.ref 114]) rfl rfl ?_
        refine wp_s (i := .iconst 0) (n := 1) (pc' := 64) (st' := [dz_I 0, .ref 114]) rfl rfl ?_
        refine wp_s (i := .bipush 118) (n := 2) (pc' := 66) (st' := [dz_I 118, dz_I 0, .ref 114]) rfl rfl ?_
        refine wq_cv (Dq := D) (r' := mm_r155) (as0 := [dz_I 0, dz_I 118]) (rest := []) (ls' := [some (.ref 114), some (dz_I 0), some (dz_I 118), none, none]) (pc' := 69) rfl rfl rfl rfl ho_M rfl rfl rfl ?_
        refine jw_M_sumOf (X := X) (D := D + 0) 0 118 Z (dz_pm (dz_bi H) (fun q5 H => ?_))
        show mm_Wp X (D + 1) mm_r191 69 [some (.ref 114), some (dz_I a1), some (dz_I s1.1), some (dz_I s1.2)] [dz_I q5] (hz_0 Z) Q
        refine wq_ri rfl rfl ?_
        replace H := dz_out H
        replace H := dz_sm H
        exact H
      · replace H := dz_if c4 H
        by_cases c6 : dz_c a1 = 2
        · replace H := dz_it c6 H
          refine wq_ts (x' := dz_c a1) (tt := 70) rfl rfl (by rw [c6]; rfl) ?_
          refine wp_s (i := .aload_n 0) (n := 1) (pc' := 71) (st' := [.ref 114]) rfl rfl ?_
          refine wq_gr (idx := 64) (a := 133) (pc' := 74) rfl rfl ho_M rfl rfl ?_
          refine wp_s (i := .iconst 0) (n := 1) (pc' := 75) (st' := [dz_I 0, .ref 133]) rfl rfl ?_
          refine wq_ba (j' := 0) (pc' := 76) rfl (by decide) ha_M_41 dk_0 (by decide) (by decide) rfl ?_
          refine dz_jn (P := fun (q8 : Int) => mm_Wp X (D + 1) mm_r191 84 [some (.ref 114), some (dz_I a1), some (dz_I s1.1), some (dz_I s1.2)] [dz_I q8] (hz_0 Z) Q) (dz_bi H) (fun q8 H => ?_) (fun H => ?_)
          · skip
            refine wp_s (i := .aload_n 0) (n := 1) (pc' := 85) (st' := [.ref 114, dz_I q8]) rfl rfl ?_
            refine wq_gr (idx := 64) (a := 133) (pc' := 88) rfl rfl ho_M rfl rfl ?_
            refine wp_s (i := .iconst 1) (n := 1) (pc' := 89) (st' := [dz_I 1, .ref 133, dz_I q8]) rfl rfl ?_
            refine wq_ba (j' := 1) (pc' := 90) rfl (by decide) ha_M_41 dk_1 (by decide) (by decide) rfl ?_
            refine wq_if (p := dz_c (Z 114 41 1) = 0) (tt := 97) (pc' := 93) rfl rfl (cz_eq rfl) rfl (fun c9 => ?_) (fun c9 => ?_)
            · replace H := dz_it c9 H
              refine wp_s (i := .iconst 0) (n := 1) (pc' := 98) (st' := [dz_I 0, dz_I q8]) rfl rfl ?_
              refine wq_2 (i := .iadd) (z := q8 + 0) (pc' := 99) rfl rfl (op_add _ _) rfl ?_
              refine wq_ri rfl rfl ?_
              replace H := dz_out H
              replace H := dz_sm H
              exact H
            · replace H := dz_if c9 H
              refine wp_s (i := .iconst 1) (n := 1) (pc' := 94) (st' := [dz_I 1, dz_I q8]) rfl rfl ?_
              refine wp_s (i := .goto 4) (n := 3) (pc' := 98) (st' := [dz_I 1, dz_I q8]) rfl rfl ?_
              refine wq_2 (i := .iadd) (z := q8 + 1) (pc' := 99) rfl rfl (op_add _ _) rfl ?_
              refine wq_ri rfl rfl ?_
              replace H := dz_out H
              replace H := dz_sm H
              exact H
          · skip
            refine wq_if (p := dz_c (Z 114 41 0) = 0) (tt := 83) (pc' := 79) rfl rfl (cz_eq rfl) rfl (fun c10 => ?_) (fun c10 => ?_)
            · replace H := dz_it c10 H
              refine wp_s (i := .iconst 0) (n := 1) (pc' := 84) (st' := [dz_I 0]) rfl rfl ?_
              replace H := dz_sm H
              exact H
            · replace H := dz_if c10 H
              refine wp_s (i := .iconst 1) (n := 1) (pc' := 80) (st' := [dz_I 1]) rfl rfl ?_
              refine wp_s (i := .goto 4) (n := 3) (pc' := 84) (st' := [dz_I 1]) rfl rfl ?_
              replace H := dz_sm H
              exact H
        · replace H := dz_if c6 H
          by_cases c11 : dz_c a1 = 3
          · replace H := dz_it c11 H
            refine wq_ts (x' := dz_c a1) (tt := 100) rfl rfl (by rw [c11]; rfl) ?_
            refine wp_s (i := .aload_n 0) (n := 1) (pc' := 101) (st' := [.ref 114]) rfl rfl ?_
            refine wq_gi (idx := 77) (pc' := 104) rfl rfl ho_M rfl rfl ?_
            refine wq_ri rfl rfl ?_
            replace H := dz_out H
            replace H := dz_sm H
            exact H
          · replace H := dz_if c11 H
            by_cases c12 : dz_c a1 = 4
            · replace H := dz_it c12 H
              refine wq_ts (x' := dz_c a1) (tt := 105) rfl rfl (by rw [c12]; rfl) ?_
              refine wp_s (i := .aload_n 0) (n := 1) (pc' := 106) (st' := [.ref 114]) rfl rfl ?_
              refine wq_gr (idx := 68) (a := 134) (pc' := 109) rfl rfl ho_M rfl rfl ?_
              refine wp_s (i := .iconst 0) (n := 1) (pc' := 110) (st' := [dz_I 0, .ref 134]) rfl rfl ?_
              refine wq_ia (j' := 0) (pc' := 111) rfl ha_M_42 dk_0 (by decide) (by decide) rfl ?_
              refine wp_s (i := .bipush (-4)) (n := 2) (pc' := 113) (st' := [dz_I (-4), dz_I (Z 114 42 0)]) rfl rfl ?_
              refine wq_ic (p := dz_c (Z 114 42 0) ≠ (-4)) (tt := 121) (pc' := 116) rfl rfl (cq_ne rfl dk_m4) rfl (fun c13 => ?_) (fun c13 => ?_)
              · replace H := dz_it c13 H
                refine wp_s (i := .aload_n 0) (n := 1) (pc' := 122) (st' := [.ref 114]) rfl rfl ?_
                refine wq_gr (idx := 71) (a := 135) (pc' := 125) rfl rfl ho_M rfl rfl ?_
                refine wp_s (i := .iconst 0) (n := 1) (pc' := 126) (st' := [dz_I 0, .ref 135]) rfl rfl ?_
                refine wq_ia (j' := 0) (pc' := 127) rfl ha_M_43 dk_0 (by decide) (by decide) rfl ?_
                refine wq_ri rfl rfl ?_
                replace H := dz_out H
                replace H := dz_sm H
                exact H
              · replace H := dz_if c13 H
                refine wp_s (i := .bipush (-4)) (n := 2) (pc' := 118) (st' := [dz_I (-4)]) rfl rfl ?_
                refine wp_s (i := .goto 9) (n := 3) (pc' := 127) (st' := [dz_I (-4)]) rfl rfl ?_
                refine wq_ri rfl rfl ?_
                replace H := dz_out H
                replace H := dz_sm H
                exact H
            · replace H := dz_if c12 H
              refine wq_ts (x' := dz_c a1) (tt := 128) rfl rfl (by unfold mm_sw; rw [if_pos (by omega)]; rfl) ?_
              refine wp_s (i := .iconst (-1)) (n := 1) (pc' := 129) (st' := [dz_I (-1)]) rfl rfl ?_
              refine wq_ri rfl rfl ?_
              replace H := dz_out H
              replace H := dz_sm H
              exact H
  · replace H := dz_if c2 H
    refine wp_s (i := .iload_n 2) (n := 1) (pc' := 10) (st' := [dz_I s1.1]) rfl rfl ?_
    refine wp_s (i := .aload_n 0) (n := 1) (pc' := 11) (st' := [.ref 114, dz_I s1.1]) rfl rfl ?_
    refine wq_gr (idx := 7) (a := 115) (pc' := 14) rfl rfl ho_M rfl rfl ?_
    refine wp_s (i := .iconst 5) (n := 1) (pc' := 15) (st' := [dz_I 5, .ref 115, dz_I s1.1]) rfl rfl ?_
    refine wp_s (i := .iload_n 3) (n := 1) (pc' := 16) (st' := [dz_I s1.2, dz_I 5, .ref 115, dz_I s1.1]) rfl rfl ?_
    refine wq_2 (i := .iadd) (z := 5 + s1.2) (pc' := 17) rfl rfl (op_add _ _) rfl ?_
    obtain ⟨k14, H⟩ := dz_ck H
    refine wq_ia (j' := dz_c (5 + s1.2)) (pc' := 18) rfl ha_M_0 rfl k14.1 k14.2 rfl ?_
    refine wq_2 (i := .iadd) (z := s1.1 + (Z 114 0 (dz_c (5 + s1.2)))) (pc' := 19) rfl rfl (op_add _ _) rfl ?_
    refine wq_st (k := 2) (i := .istore_n 2) (n := 1) (ls' := [some (.ref 114), some (dz_I a1), some (dz_I (s1.1 + (Z 114 0 (dz_c (5 + s1.2))))), some (dz_I s1.2)]) (pc' := 20) rfl rfl rfl rfl rfl ?_
    refine wq_inc (k := 3) (d := 1) (x := s1.2) (ls' := [some (.ref 114), some (dz_I a1), some (dz_I (s1.1 + (Z 114 0 (dz_c (5 + s1.2))))), some (dz_I (s1.2 + 1))]) (pc' := 23) rfl rfl rfl rfl ?_
    refine wp_s (i := .goto (-19)) (n := 3) (pc' := 4) (st' := []) rfl rfl ?_
    replace H := dz_back H
    exact H
end mg_25m15
