-- 18
def jf_F_fillCup (c0 : Nat) (a1 : Nat) (a2 : Int) (a3 : Int) (a4 : Int) (Z : dz_Z) : Option (Int × dz_Z) := if dz_c a2 = 0 then (dz_a (dz_u Z c0 7 0 ((Z c0 7 0) + a4)) fun Z2 => if dz_c a4 ≤ 0 then (some (0, Z2)) else (some (1, Z2))) else (if dz_c a2 = 1 then (if 0 ≤ dz_c a3 ∧ dz_c a3 < 8 then Option.bind (jf_F_tip c0 a3 (Z a1 8 (dz_c a3)) a4 20 Z) fun q6 => some (q6.1, q6.2) else none) else (if dz_c a2 = 2 then (if 0 ≤ dz_c a3 ∧ dz_c a3 < 8 then Option.bind (jf_F_leak c0 a3 (Z a1 8 (dz_c a3)) a4 Z) fun q9 => some (q9.1, q9.2) else none) else (if dz_c a2 = 3 then (if 0 ≤ dz_c a3 ∧ dz_c a3 < 8 then Option.bind (jf_F_countEach c0 a3 (Z a1 8 (dz_c a3)) a4 Z) fun q12 => some (q12.1, q12.2) else none) else (if dz_c a2 = 4 then (if 0 ≤ dz_c a3 ∧ dz_c a3 < 8 then Option.bind (jf_F_tip c0 a3 (Z a1 8 (dz_c a3)) a4 (Z a1 9 (dz_c a3)) Z) fun q15 => some (q15.1, q15.2) else none) else (dz_a (dz_u Z c0 7 0 ((Z c0 7 0) + a4)) fun Z16 => some (0, Z16))))))
set_option maxRecDepth 20000 in
theorem jw_F_fillCup {X : Option (List Int32)} {D : Nat} {Q : Option Value → mm_H → Prop} (c0 : Nat) (hc0 : hz_isF c0) (a1 : Nat) (ha1 : hz_isP a1) (a2 : Int) (a3 : Int) (a4 : Int) (Z : dz_Z) (H : dz_p (jf_F_fillCup c0 a1 a2 a3 a4 Z) (fun q => Q (some (dz_I q.1)) (hz_0 q.2))) : mm_Wp X (D + 1) mm_r18 0 [some (.ref c0), some (.ref a1), some (dz_I a2), some (dz_I a3), some (dz_I a4)] [] (hz_0 Z) Q := by
  unfold jf_F_fillCup at H
  refine wp_s (i := .iload_n 2) (n := 1) (pc' := 1) (st' := [dz_I a2]) rfl rfl ?_
  by_cases c1 : dz_c a2 = 0
  · replace H := dz_it c1 H
    refine wq_ts (x' := dz_c a2) (tt := 36) rfl rfl (by rw [c1]; rfl) ?_
    refine wp_s (i := .aload_n 0) (n := 1) (pc' := 37) (st' := [.ref c0]) rfl rfl ?_
    refine wp_s (i := .dup) (n := 1) (pc' := 38) (st' := [.ref c0, .ref c0]) rfl rfl ?_
    refine wq_gi (idx := 50) (pc' := 41) rfl rfl (ho_F hc0) rfl rfl ?_
    refine wp_s (i := .iload 4) (n := 2) (pc' := 43) (st' := [dz_I a4, dz_I (Z c0 7 0), .ref c0]) rfl rfl ?_
    refine wq_2 (i := .iadd) (z := (Z c0 7 0) + a4) (pc' := 44) rfl rfl (op_add _ _) rfl ?_
    refine wq_pi (idx := 50) (x := (Z c0 7 0) + a4) (pc' := 47) rfl rfl rfl (ho_F hc0) rfl rfl rfl rfl (fun Z2 eZ2 => ?_)
    replace H := dz_le H Z2 eZ2
    clear eZ2
    refine wp_s (i := .iload 4) (n := 2) (pc' := 49) (st' := [dz_I a4]) rfl rfl ?_
    refine wq_if (p := dz_c a4 ≤ 0) (tt := 56) (pc' := 52) rfl rfl (cz_le rfl) rfl (fun c3 => ?_) (fun c3 => ?_)
    · replace H := dz_it c3 H
      refine wp_s (i := .iconst 0) (n := 1) (pc' := 57) (st' := [dz_I 0]) rfl rfl ?_
      refine wq_ri rfl rfl ?_
      replace H := dz_sm H
      exact H
    · replace H := dz_if c3 H
      refine wp_s (i := .iconst 1) (n := 1) (pc' := 53) (st' := [dz_I 1]) rfl rfl ?_
      refine wp_s (i := .goto 4) (n := 3) (pc' := 57) (st' := [dz_I 1]) rfl rfl ?_
      refine wq_ri rfl rfl ?_
      replace H := dz_sm H
      exact H
  · replace H := dz_if c1 H
    by_cases c4 : dz_c a2 = 1
    · replace H := dz_it c4 H
      refine wq_ts (x' := dz_c a2) (tt := 58) rfl rfl (by rw [c4]; rfl) ?_
      refine wp_s (i := .aload_n 0) (n := 1) (pc' := 59) (st' := [.ref c0]) rfl rfl ?_
      refine wp_s (i := .iload_n 3) (n := 1) (pc' := 60) (st' := [dz_I a3, .ref c0]) rfl rfl ?_
      refine wp_s (i := .aload_n 1) (n := 1) (pc' := 61) (st' := [.ref a1, dz_I a3, .ref c0]) rfl rfl ?_
      refine wq_gr (idx := 130) (a := a1 + 6) (pc' := 64) rfl rfl (ho_P ha1) rfl rfl ?_
      refine wp_s (i := .iload_n 3) (n := 1) (pc' := 65) (st' := [dz_I a3, .ref (a1 + 6), dz_I a3, .ref c0]) rfl rfl ?_
      obtain ⟨k5, H⟩ := dz_ck H
      refine wq_ia (j' := dz_c a3) (pc' := 66) rfl (ha_P_8 ha1) rfl k5.1 k5.2 rfl ?_
      refine wp_s (i := .iload 4) (n := 2) (pc' := 68) (st' := [dz_I a4, dz_I (Z a1 8 (dz_c a3)), dz_I a3, .ref c0]) rfl rfl ?_
      refine wp_s (i := .bipush 20) (n := 2) (pc' := 70) (st' := [dz_I 20, dz_I a4, dz_I (Z a1 8 (dz_c a3)), dz_I a3, .ref c0]) rfl rfl ?_
      refine wq_cv (Dq := D) (r' := mm_r19) (as0 := [dz_I a3, dz_I (Z a1 8 (dz_c a3)), dz_I a4, dz_I 20]) (rest := []) (ls' := [some (.ref c0), some (dz_I a3), some (dz_I (Z a1 8 (dz_c a3))), some (dz_I a4), some (dz_I 20), none, none]) (pc' := 73) rfl rfl rfl rfl (ho_F hc0) rfl rfl rfl ?_
      refine jw_F_tip (X := X) (D := D + 0) c0 hc0 a3 (Z a1 8 (dz_c a3)) a4 20 Z (dz_pm (dz_bi H) (fun q6 H => ?_))
      show mm_Wp X (D + 1) mm_r18 73 [some (.ref c0), some (.ref a1), some (dz_I a2), some (dz_I a3), some (dz_I a4)] [dz_I q6.1] (hz_0 q6.2) Q
      refine wq_ri rfl rfl ?_
      replace H := dz_sm H
      exact H
    · replace H := dz_if c4 H
      by_cases c7 : dz_c a2 = 2
      · replace H := dz_it c7 H
        refine wq_ts (x' := dz_c a2) (tt := 74) rfl rfl (by rw [c7]; rfl) ?_
        refine wp_s (i := .aload_n 0) (n := 1) (pc' := 75) (st' := [.ref c0]) rfl rfl ?_
        refine wp_s (i := .iload_n 3) (n := 1) (pc' := 76) (st' := [dz_I a3, .ref c0]) rfl rfl ?_
        refine wp_s (i := .aload_n 1) (n := 1) (pc' := 77) (st' := [.ref a1, dz_I a3, .ref c0]) rfl rfl ?_
        refine wq_gr (idx := 130) (a := a1 + 6) (pc' := 80) rfl rfl (ho_P ha1) rfl rfl ?_
        refine wp_s (i := .iload_n 3) (n := 1) (pc' := 81) (st' := [dz_I a3, .ref (a1 + 6), dz_I a3, .ref c0]) rfl rfl ?_
        obtain ⟨k8, H⟩ := dz_ck H
        refine wq_ia (j' := dz_c a3) (pc' := 82) rfl (ha_P_8 ha1) rfl k8.1 k8.2 rfl ?_
        refine wp_s (i := .iload 4) (n := 2) (pc' := 84) (st' := [dz_I a4, dz_I (Z a1 8 (dz_c a3)), dz_I a3, .ref c0]) rfl rfl ?_
        refine wq_cv (Dq := D) (r' := mm_r20) (as0 := [dz_I a3, dz_I (Z a1 8 (dz_c a3)), dz_I a4]) (rest := []) (ls' := [some (.ref c0), some (dz_I a3), some (dz_I (Z a1 8 (dz_c a3))), some (dz_I a4)]) (pc' := 87) rfl rfl rfl rfl (ho_F hc0) rfl rfl rfl ?_
        refine jw_F_leak (X := X) (D := D + 0) c0 hc0 a3 (Z a1 8 (dz_c a3)) a4 Z (dz_pm (dz_bi H) (fun q9 H => ?_))
        show mm_Wp X (D + 1) mm_r18 87 [some (.ref c0), some (.ref a1), some (dz_I a2), some (dz_I a3), some (dz_I a4)] [dz_I q9.1] (hz_0 q9.2) Q
        refine wq_ri rfl rfl ?_
        replace H := dz_sm H
        exact H
      · replace H := dz_if c7 H
        by_cases c10 : dz_c a2 = 3
        · replace H := dz_it c10 H
          refine wq_ts (x' := dz_c a2) (tt := 88) rfl rfl (by rw [c10]; rfl) ?_
          refine wp_s (i := .aload_n 0) (n := 1) (pc' := 89) (st' := [.ref c0]) rfl rfl ?_
          refine wp_s (i := .iload_n 3) (n := 1) (pc' := 90) (st' := [dz_I a3, .ref c0]) rfl rfl ?_
          refine wp_s (i := .aload_n 1) (n := 1) (pc' := 91) (st' := [.ref a1, dz_I a3, .ref c0]) rfl rfl ?_
          refine wq_gr (idx := 130) (a := a1 + 6) (pc' := 94) rfl rfl (ho_P ha1) rfl rfl ?_
          refine wp_s (i := .iload_n 3) (n := 1) (pc' := 95) (st' := [dz_I a3, .ref (a1 + 6), dz_I a3, .ref c0]) rfl rfl ?_
          obtain ⟨k11, H⟩ := dz_ck H
          refine wq_ia (j' := dz_c a3) (pc' := 96) rfl (ha_P_8 ha1) rfl k11.1 k11.2 rfl ?_
          refine wp_s (i := .iload 4) (n := 2) (pc' := 98) (st' := [dz_I a4, dz_I (Z a1 8 (dz_c a3)), dz_I a3, .ref c0]) rfl rfl ?_
          refine wq_cv (Dq := D) (r' := mm_r21) (as0 := [dz_I a3, dz_I (Z a1 8 (dz_c a3)), dz_I a4]) (rest := []) (ls' := [some (.ref c0), some (dz_I a3), some (dz_I (Z a1 8 (dz_c a3))), some (dz_I a4), none]) (pc' := 101) rfl rfl rfl rfl (ho_F hc0) rfl rfl rfl ?_
          refine jw_F_countEach (X := X) (D := D + 0) c0 hc0 a3 (Z a1 8 (dz_c a3)) a4 Z (dz_pm (dz_bi H) (fun q12 H => ?_))
          show mm_Wp X (D + 1) mm_r18 101 [some (.ref c0), some (.ref a1), some (dz_I a2), some (dz_I a3), some (dz_I a4)] [dz_I q12.1] (hz_0 q12.2) Q
          refine wq_ri rfl rfl ?_
          replace H := dz_sm H
          exact H
        · replace H := dz_if c10 H
          by_cases c13 : dz_c a2 = 4
          · replace H := dz_it c13 H
            refine wq_ts (x' := dz_c a2) (tt := 102) rfl rfl (by rw [c13]; rfl) ?_
            refine wp_s (i := .aload_n 0) (n := 1) (pc' := 103) (st' := [.ref c0]) rfl rfl ?_
            refine wp_s (i := .iload_n 3) (n := 1) (pc' := 104) (st' := [dz_I a3, .ref c0]) rfl rfl ?_
            refine wp_s (i := .aload_n 1) (n := 1) (pc' := 105) (st' := [.ref a1, dz_I a3, .ref c0]) rfl rfl ?_
            refine wq_gr (idx := 130) (a := a1 + 6) (pc' := 108) rfl rfl (ho_P ha1) rfl rfl ?_
            refine wp_s (i := .iload_n 3) (n := 1) (pc' := 109) (st' := [dz_I a3, .ref (a1 + 6), dz_I a3, .ref c0]) rfl rfl ?_
            obtain ⟨k14, H⟩ := dz_ck H
            refine wq_ia (j' := dz_c a3) (pc' := 110) rfl (ha_P_8 ha1) rfl k14.1 k14.2 rfl ?_
            refine wp_s (i := .iload 4) (n := 2) (pc' := 112) (st' := [dz_I a4, dz_I (Z a1 8 (dz_c a3)), dz_I a3, .ref c0]) rfl rfl ?_
            refine wp_s (i := .aload_n 1) (n := 1) (pc' := 113) (st' := [.ref a1, dz_I a4, dz_I (Z a1 8 (dz_c a3)), dz_I a3, .ref c0]) rfl rfl ?_
            refine wq_gr (idx := 144) (a := a1 + 7) (pc' := 116) rfl rfl (ho_P ha1) rfl rfl ?_
            refine wp_s (i := .iload_n 3) (n := 1) (pc' := 117) (st' := [dz_I a3, .ref (a1 + 7), dz_I a4, dz_I (Z a1 8 (dz_c a3)), dz_I a3, .ref c0]) rfl rfl ?_
            refine wq_ia (j' := dz_c a3) (pc' := 118) rfl (ha_P_9 ha1) rfl k14.1 k14.2 rfl ?_
            refine wq_cv (Dq := D) (r' := mm_r19) (as0 := [dz_I a3, dz_I (Z a1 8 (dz_c a3)), dz_I a4, dz_I (Z a1 9 (dz_c a3))]) (rest := []) (ls' := [some (.ref c0), some (dz_I a3), some (dz_I (Z a1 8 (dz_c a3))), some (dz_I a4), some (dz_I (Z a1 9 (dz_c a3))), none, none]) (pc' := 121) rfl rfl rfl rfl (ho_F hc0) rfl rfl rfl ?_
            refine jw_F_tip (X := X) (D := D + 0) c0 hc0 a3 (Z a1 8 (dz_c a3)) a4 (Z a1 9 (dz_c a3)) Z (dz_pm (dz_bi H) (fun q15 H => ?_))
            show mm_Wp X (D + 1) mm_r18 121 [some (.ref c0), some (.ref a1), some (dz_I a2), some (dz_I a3), some (dz_I a4)] [dz_I q15.1] (hz_0 q15.2) Q
            refine wq_ri rfl rfl ?_
            replace H := dz_sm H
            exact H
          · replace H := dz_if c13 H
            refine wq_ts (x' := dz_c a2) (tt := 122) rfl rfl (by unfold mm_sw; rw [if_pos (by omega)]; rfl) ?_
            refine wp_s (i := .aload_n 0) (n := 1) (pc' := 123) (st' := [.ref c0]) rfl rfl ?_
            refine wp_s (i := .dup) (n := 1) (pc' := 124) (st' := [.ref c0, .ref c0]) rfl rfl ?_
            refine wq_gi (idx := 50) (pc' := 127) rfl rfl (ho_F hc0) rfl rfl ?_
            refine wp_s (i := .iload 4) (n := 2) (pc' := 129) (st' := [dz_I a4, dz_I (Z c0 7 0), .ref c0]) rfl rfl ?_
            refine wq_2 (i := .iadd) (z := (Z c0 7 0) + a4) (pc' := 130) rfl rfl (op_add _ _) rfl ?_
            refine wq_pi (idx := 50) (x := (Z c0 7 0) + a4) (pc' := 133) rfl rfl rfl (ho_F hc0) rfl rfl rfl rfl (fun Z16 eZ16 => ?_)
            replace H := dz_le H Z16 eZ16
            clear eZ16
            refine wp_s (i := .iconst 0) (n := 1) (pc' := 134) (st' := [dz_I 0]) rfl rfl ?_
            refine wq_ri rfl rfl ?_
            replace H := dz_sm H
            exact H
-- 17
def jf_F_fillCups (c0 : Nat) (a1 : Nat) (a2 : Nat) (Z : dz_Z) : Option (Int × dz_Z) := dz_lp (fun (s1 : Int × Int × dz_Z) => if dz_c (s1.2.2 a1 6 0) ≤ dz_c s1.2.1 then (some (Sum.inr (s1.1, s1.2.2))) else (Option.bind (jf_F_isBroken c0 a1 s1.2.1 s1.2.2) fun q6 => if 0 ≤ dz_c s1.2.1 ∧ dz_c s1.2.1 < 8 then dz_a (dz_u s1.2.2 c0 2 (dz_c s1.2.1) ((s1.2.2 c0 2 (dz_c s1.2.1)) + (dz_c (s1.2.2 c0 11 (dz_c s1.2.1))))) fun Z8 => Option.bind (jf_F_fillCup c0 a1 (Z8 a2 2 (dz_c s1.2.1)) s1.2.1 (s1.2.2 c0 11 (dz_c s1.2.1)) Z8) fun q9 => Option.bind (α := Int) (if q6 = false then (some q9.1) else (some 0)) (fun (q11 : Int) => dz_a (dz_u q9.2 c0 4 (dz_c s1.2.1) q11) fun Z12 => if dz_c (Z12 c0 4 (dz_c s1.2.1)) ≤ 0 then (some (Sum.inl (s1.1, s1.2.1 + 1, Z12))) else (dz_a (dz_u Z12 c0 8 0 ((Z12 c0 8 0) + (Z12 c0 4 (dz_c s1.2.1)))) fun Z14 => dz_a (dz_u Z14 c0 9 0 (dz_or (Z14 c0 9 0) (dz_sl 1 s1.2.1))) fun Z15 => some (Sum.inl (dz_or s1.1 (dz_sl 1 (Z15 a1 7 (dz_c s1.2.1))), s1.2.1 + 1, Z15)))) else none)) 5000 (0, 0, Z)
set_option maxRecDepth 20000 in
theorem jw_F_fillCups {X : Option (List Int32)} {D : Nat} {Q : Option Value → mm_H → Prop} (c0 : Nat) (hc0 : hz_isF c0) (a1 : Nat) (ha1 : hz_isP a1) (a2 : Nat) (ha2 : hz_isS a2) (Z : dz_Z) (H : dz_p (jf_F_fillCups c0 a1 a2 Z) (fun q => Q (some (dz_I q.1)) (hz_0 q.2))) : mm_Wp X (D + 2) mm_r17 0 [some (.ref c0), some (.ref a1), some (.ref a2), none, none, none, none, none] [] (hz_0 Z) Q := by
  unfold jf_F_fillCups at H
  refine wp_s (i := .iconst 0) (n := 1) (pc' := 1) (st' := [dz_I 0]) rfl rfl ?_
  refine wq_st (k := 3) (i := .istore_n 3) (n := 1) (ls' := [some (.ref c0), some (.ref a1), some (.ref a2), some (dz_I 0), none, none, none, none]) (pc' := 2) rfl rfl rfl rfl rfl ?_
  refine wp_s (i := .iconst 0) (n := 1) (pc' := 3) (st' := [dz_I 0]) rfl rfl ?_
  refine wq_st (k := 4) (i := .istore 4) (n := 2) (ls' := [some (.ref c0), some (.ref a1), some (.ref a2), some (dz_I 0), some (dz_I 0), none, none, none]) (pc' := 5) rfl rfl rfl rfl rfl ?_
  refine dz_lpi (P := fun (s1 : Int × Int × dz_Z) => ∀ (u2 u3 u4 : Option Int32), mm_Wp X (D + 2) mm_r17 5 [some (.ref c0), some (.ref a1), some (.ref a2), some (dz_I s1.1), some (dz_I s1.2.1), Option.map Value.int u2, Option.map Value.int u3, Option.map Value.int u4] [] (hz_0 s1.2.2) Q) (fun s1 H => ?_) 5000 (0, 0, Z) H none none none
  intro u2 u3 u4
  refine wp_s (i := .iload 4) (n := 2) (pc' := 7) (st' := [dz_I s1.2.1]) rfl rfl ?_
  refine wp_s (i := .aload_n 1) (n := 1) (pc' := 8) (st' := [.ref a1, dz_I s1.2.1]) rfl rfl ?_
  refine wq_gi (idx := 113) (pc' := 11) rfl rfl (ho_P ha1) rfl rfl ?_
  refine wq_ic (p := dz_c (s1.2.2 a1 6 0) ≤ dz_c s1.2.1) (tt := 138) (pc' := 14) rfl rfl (cq_ge rfl rfl) rfl (fun c5 => ?_) (fun c5 => ?_)
  · replace H := dz_it c5 H
    refine wp_s (i := .iload_n 3) (n := 1) (pc' := 139) (st' := [dz_I s1.1]) rfl rfl ?_
    refine wq_ri rfl rfl ?_
    replace H := dz_out H
    replace H := dz_sm H
    exact H
  · replace H := dz_if c5 H
    refine wp_s (i := .aload_n 0) (n := 1) (pc' := 15) (st' := [.ref c0]) rfl rfl ?_
    refine wp_s (i := .aload_n 1) (n := 1) (pc' := 16) (st' := [.ref a1, .ref c0]) rfl rfl ?_
    refine wp_s (i := .iload 4) (n := 2) (pc' := 18) (st' := [dz_I s1.2.1, .ref a1, .ref c0]) rfl rfl ?_
    refine wq_cv (Dq := (D + 1)) (r' := mm_r23) (as0 := [.ref a1, dz_I s1.2.1]) (rest := []) (ls' := [some (.ref c0), some (.ref a1), some (dz_I s1.2.1)]) (pc' := 21) rfl rfl rfl rfl (ho_F hc0) rfl rfl rfl ?_
    refine jw_F_isBroken (X := X) (D := D + 1) c0 hc0 a1 ha1 s1.2.1 s1.2.2 (dz_pm (dz_bi H) (fun q6 H => ?_))
    show mm_Wp X (D + 2) mm_r17 21 [some (.ref c0), some (.ref a1), some (.ref a2), some (dz_I s1.1), some (dz_I s1.2.1), Option.map Value.int u2, Option.map Value.int u3, Option.map Value.int u4] [dz_B q6] (hz_0 s1.2.2) Q
    refine wq_st (k := 5) (i := .istore 5) (n := 2) (ls' := [some (.ref c0), some (.ref a1), some (.ref a2), some (dz_I s1.1), some (dz_I s1.2.1), some (dz_B q6), Option.map Value.int u3, Option.map Value.int u4]) (pc' := 23) rfl rfl rfl rfl rfl ?_
    refine wp_s (i := .aload_n 0) (n := 1) (pc' := 24) (st' := [.ref c0]) rfl rfl ?_
    refine wq_gr (idx := 31) (a := c0 + 7) (pc' := 27) rfl rfl (ho_F hc0) rfl rfl ?_
    refine wp_s (i := .iload 4) (n := 2) (pc' := 29) (st' := [dz_I s1.2.1, .ref (c0 + 7)]) rfl rfl ?_
    obtain ⟨k7, H⟩ := dz_ck H
    refine wq_ia (j' := dz_c s1.2.1) (pc' := 30) rfl (ha_F_11 hc0) rfl k7.1 k7.2 rfl ?_
    refine wq_st (k := 6) (i := .istore 6) (n := 2) (ls' := [some (.ref c0), some (.ref a1), some (.ref a2), some (dz_I s1.1), some (dz_I s1.2.1), some (dz_B q6), some (dz_I (s1.2.2 c0 11 (dz_c s1.2.1))), Option.map Value.int u4]) (pc' := 32) rfl rfl rfl rfl rfl ?_
    refine wp_s (i := .aload_n 0) (n := 1) (pc' := 33) (st' := [.ref c0]) rfl rfl ?_
    refine wq_gr (idx := 18) (a := c0 + 3) (pc' := 36) rfl rfl (ho_F hc0) rfl rfl ?_
    refine wp_s (i := .iload 4) (n := 2) (pc' := 38) (st' := [dz_I s1.2.1, .ref (c0 + 3)]) rfl rfl ?_
    refine wp_s (i := .dup2) (n := 1) (pc' := 39) (st' := [dz_I s1.2.1, .ref (c0 + 3), dz_I s1.2.1, .ref (c0 + 3)]) rfl rfl ?_
    refine wq_la (j' := dz_c s1.2.1) (pc' := 40) rfl (ha_F_2 hc0) rfl k7.1 k7.2 rfl ?_
    refine wp_s (i := .iload 6) (n := 2) (pc' := 42) (st' := [dz_I (s1.2.2 c0 11 (dz_c s1.2.1)), dz_J (s1.2.2 c0 2 (dz_c s1.2.1)), dz_I s1.2.1, .ref (c0 + 3)]) rfl rfl ?_
    refine wq_3 (i := .i2l) (v' := dz_J (dz_c (s1.2.2 c0 11 (dz_c s1.2.1)))) (pc' := 43) rfl rfl (oq_i2l' rfl) rfl ?_
    refine wq_4 (i := .ladd) (v' := dz_J ((s1.2.2 c0 2 (dz_c s1.2.1)) + (dz_c (s1.2.2 c0 11 (dz_c s1.2.1))))) (pc' := 44) rfl rfl (ol_add _ _) rfl ?_
    refine wq_ls (j' := dz_c s1.2.1) (x := (s1.2.2 c0 2 (dz_c s1.2.1)) + (dz_c (s1.2.2 c0 11 (dz_c s1.2.1)))) (pc' := 45) rfl (ha_F_2 hc0) rfl k7.1 k7.2 rfl (fun Z8 eZ8 => ?_)
    replace H := dz_le H Z8 eZ8
    clear eZ8
    refine wp_s (i := .aload_n 0) (n := 1) (pc' := 46) (st' := [.ref c0]) rfl rfl ?_
    refine wp_s (i := .aload_n 1) (n := 1) (pc' := 47) (st' := [.ref a1, .ref c0]) rfl rfl ?_
    refine wp_s (i := .aload_n 2) (n := 1) (pc' := 48) (st' := [.ref a2, .ref a1, .ref c0]) rfl rfl ?_
    refine wq_gr (idx := 120) (a := a2 + 3) (pc' := 51) rfl rfl (ho_S ha2) rfl rfl ?_
    refine wp_s (i := .iload 4) (n := 2) (pc' := 53) (st' := [dz_I s1.2.1, .ref (a2 + 3), .ref a1, .ref c0]) rfl rfl ?_
    refine wq_ia (j' := dz_c s1.2.1) (pc' := 54) rfl (ha_S_2 ha2) rfl k7.1 k7.2 rfl ?_
    refine wp_s (i := .iload 4) (n := 2) (pc' := 56) (st' := [dz_I s1.2.1, dz_I (Z8 a2 2 (dz_c s1.2.1)), .ref a1, .ref c0]) rfl rfl ?_
    refine wp_s (i := .iload 6) (n := 2) (pc' := 58) (st' := [dz_I (s1.2.2 c0 11 (dz_c s1.2.1)), dz_I s1.2.1, dz_I (Z8 a2 2 (dz_c s1.2.1)), .ref a1, .ref c0]) rfl rfl ?_
    refine wq_cv (Dq := (D + 1)) (r' := mm_r18) (as0 := [.ref a1, dz_I (Z8 a2 2 (dz_c s1.2.1)), dz_I s1.2.1, dz_I (s1.2.2 c0 11 (dz_c s1.2.1))]) (rest := []) (ls' := [some (.ref c0), some (.ref a1), some (dz_I (Z8 a2 2 (dz_c s1.2.1))), some (dz_I s1.2.1), some (dz_I (s1.2.2 c0 11 (dz_c s1.2.1)))]) (pc' := 61) rfl rfl rfl rfl (ho_F hc0) rfl rfl rfl ?_
    refine jw_F_fillCup (X := X) (D := D + 0) c0 hc0 a1 ha1 (Z8 a2 2 (dz_c s1.2.1)) s1.2.1 (s1.2.2 c0 11 (dz_c s1.2.1)) Z8 (dz_pm (dz_bi H) (fun q9 H => ?_))
    show mm_Wp X (D + 2) mm_r17 61 [some (.ref c0), some (.ref a1), some (.ref a2), some (dz_I s1.1), some (dz_I s1.2.1), some (dz_B q6), some (dz_I (s1.2.2 c0 11 (dz_c s1.2.1))), Option.map Value.int u4] [dz_I q9.1] (hz_0 q9.2) Q
    refine wq_st (k := 7) (i := .istore 7) (n := 2) (ls' := [some (.ref c0), some (.ref a1), some (.ref a2), some (dz_I s1.1), some (dz_I s1.2.1), some (dz_B q6), some (dz_I (s1.2.2 c0 11 (dz_c s1.2.1))), some (dz_I q9.1)]) (pc' := 63) rfl rfl rfl rfl rfl ?_
    refine wp_s (i := .aload_n 0) (n := 1) (pc' := 64) (st' := [.ref c0]) rfl rfl ?_
    refine wq_gr (idx := 25) (a := c0 + 5) (pc' := 67) rfl rfl (ho_F hc0) rfl rfl ?_
    refine wp_s (i := .iload 4) (n := 2) (pc' := 69) (st' := [dz_I s1.2.1, .ref (c0 + 5)]) rfl rfl ?_
    refine wp_s (i := .iload 5) (n := 2) (pc' := 71) (st' := [dz_B q6, dz_I s1.2.1, .ref (c0 + 5)]) rfl rfl ?_
    refine dz_jn (P := fun (q11 : Int) => mm_Wp X (D + 2) mm_r17 80 [some (.ref c0), some (.ref a1), some (.ref a2), some (dz_I s1.1), some (dz_I s1.2.1), some (dz_B q6), some (dz_I (s1.2.2 c0 11 (dz_c s1.2.1))), some (dz_I q9.1)] [dz_I q11, dz_I s1.2.1, .ref (c0 + 5)] (hz_0 q9.2) Q) (dz_bi H) (fun q11 H => ?_) (fun H => ?_)
    · skip
      refine wq_is (j' := dz_c s1.2.1) (x := q11) (pc' := 81) rfl (ha_F_4 hc0) rfl k7.1 k7.2 rfl (fun Z12 eZ12 => ?_)
      replace H := dz_le H Z12 eZ12
      clear eZ12
      refine wp_s (i := .aload_n 0) (n := 1) (pc' := 82) (st' := [.ref c0]) rfl rfl ?_
      refine wq_gr (idx := 25) (a := c0 + 5) (pc' := 85) rfl rfl (ho_F hc0) rfl rfl ?_
      refine wp_s (i := .iload 4) (n := 2) (pc' := 87) (st' := [dz_I s1.2.1, .ref (c0 + 5)]) rfl rfl ?_
      refine wq_ia (j' := dz_c s1.2.1) (pc' := 88) rfl (ha_F_4 hc0) rfl k7.1 k7.2 rfl ?_
      refine wq_if (p := dz_c (Z12 c0 4 (dz_c s1.2.1)) ≤ 0) (tt := 132) (pc' := 91) rfl rfl (cz_le rfl) rfl (fun c13 => ?_) (fun c13 => ?_)
      · replace H := dz_it c13 H
        refine wq_inc (k := 4) (d := 1) (x := s1.2.1) (ls' := [some (.ref c0), some (.ref a1), some (.ref a2), some (dz_I s1.1), some (dz_I (s1.2.1 + 1)), some (dz_B q6), some (dz_I (s1.2.2 c0 11 (dz_c s1.2.1))), some (dz_I q9.1)]) (pc' := 135) rfl rfl rfl rfl ?_
        refine wp_s (i := .goto (-130)) (n := 3) (pc' := 5) (st' := []) rfl rfl ?_
        replace H := dz_back H
        exact H (some (bif q6 then 1 else 0)) (some (Int32.ofInt (s1.2.2 c0 11 (dz_c s1.2.1)))) (some (Int32.ofInt q9.1))
      · replace H := dz_if c13 H
        refine wp_s (i := .aload_n 0) (n := 1) (pc' := 92) (st' := [.ref c0]) rfl rfl ?_
        refine wp_s (i := .dup) (n := 1) (pc' := 93) (st' := [.ref c0, .ref c0]) rfl rfl ?_
        refine wq_gi (idx := 53) (pc' := 96) rfl rfl (ho_F hc0) rfl rfl ?_
        refine wp_s (i := .aload_n 0) (n := 1) (pc' := 97) (st' := [.ref c0, dz_I (Z12 c0 8 0), .ref c0]) rfl rfl ?_
        refine wq_gr (idx := 25) (a := c0 + 5) (pc' := 100) rfl rfl (ho_F hc0) rfl rfl ?_
        refine wp_s (i := .iload 4) (n := 2) (pc' := 102) (st' := [dz_I s1.2.1, .ref (c0 + 5), dz_I (Z12 c0 8 0), .ref c0]) rfl rfl ?_
        refine wq_ia (j' := dz_c s1.2.1) (pc' := 103) rfl (ha_F_4 hc0) rfl k7.1 k7.2 rfl ?_
        refine wq_2 (i := .iadd) (z := (Z12 c0 8 0) + (Z12 c0 4 (dz_c s1.2.1))) (pc' := 104) rfl rfl (op_add _ _) rfl ?_
        refine wq_pi (idx := 53) (x := (Z12 c0 8 0) + (Z12 c0 4 (dz_c s1.2.1))) (pc' := 107) rfl rfl rfl (ho_F hc0) rfl rfl rfl rfl (fun Z14 eZ14 => ?_)
        replace H := dz_le H Z14 eZ14
        clear eZ14
        refine wp_s (i := .aload_n 0) (n := 1) (pc' := 108) (st' := [.ref c0]) rfl rfl ?_
        refine wp_s (i := .dup) (n := 1) (pc' := 109) (st' := [.ref c0, .ref c0]) rfl rfl ?_
        refine wq_gi (idx := 56) (pc' := 112) rfl rfl (ho_F hc0) rfl rfl ?_
        refine wp_s (i := .iconst 1) (n := 1) (pc' := 113) (st' := [dz_I 1, dz_I (Z14 c0 9 0), .ref c0]) rfl rfl ?_
        refine wp_s (i := .iload 4) (n := 2) (pc' := 115) (st' := [dz_I s1.2.1, dz_I 1, dz_I (Z14 c0 9 0), .ref c0]) rfl rfl ?_
        refine wq_2 (i := .ishl) (z := dz_sl 1 s1.2.1) (pc' := 116) rfl rfl (op_shl _ _) rfl ?_
        refine wq_2 (i := .ior) (z := dz_or (Z14 c0 9 0) (dz_sl 1 s1.2.1)) (pc' := 117) rfl rfl (op_or _ _) rfl ?_
        refine wq_pi (idx := 56) (x := dz_or (Z14 c0 9 0) (dz_sl 1 s1.2.1)) (pc' := 120) rfl rfl rfl (ho_F hc0) rfl rfl rfl rfl (fun Z15 eZ15 => ?_)
        replace H := dz_le H Z15 eZ15
        clear eZ15
        refine wp_s (i := .iload_n 3) (n := 1) (pc' := 121) (st' := [dz_I s1.1]) rfl rfl ?_
        refine wp_s (i := .iconst 1) (n := 1) (pc' := 122) (st' := [dz_I 1, dz_I s1.1]) rfl rfl ?_
        refine wp_s (i := .aload_n 1) (n := 1) (pc' := 123) (st' := [.ref a1, dz_I 1, dz_I s1.1]) rfl rfl ?_
        refine wq_gr (idx := 127) (a := a1 + 5) (pc' := 126) rfl rfl (ho_P ha1) rfl rfl ?_
        refine wp_s (i := .iload 4) (n := 2) (pc' := 128) (st' := [dz_I s1.2.1, .ref (a1 + 5), dz_I 1, dz_I s1.1]) rfl rfl ?_
        refine wq_ia (j' := dz_c s1.2.1) (pc' := 129) rfl (ha_P_7 ha1) rfl k7.1 k7.2 rfl ?_
        refine wq_2 (i := .ishl) (z := dz_sl 1 (Z15 a1 7 (dz_c s1.2.1))) (pc' := 130) rfl rfl (op_shl _ _) rfl ?_
        refine wq_2 (i := .ior) (z := dz_or s1.1 (dz_sl 1 (Z15 a1 7 (dz_c s1.2.1)))) (pc' := 131) rfl rfl (op_or _ _) rfl ?_
        refine wq_st (k := 3) (i := .istore_n 3) (n := 1) (ls' := [some (.ref c0), some (.ref a1), some (.ref a2), some (dz_I (dz_or s1.1 (dz_sl 1 (Z15 a1 7 (dz_c s1.2.1))))), some (dz_I s1.2.1), some (dz_B q6), some (dz_I (s1.2.2 c0 11 (dz_c s1.2.1))), some (dz_I q9.1)]) (pc' := 132) rfl rfl rfl rfl rfl ?_
        refine wq_inc (k := 4) (d := 1) (x := s1.2.1) (ls' := [some (.ref c0), some (.ref a1), some (.ref a2), some (dz_I (dz_or s1.1 (dz_sl 1 (Z15 a1 7 (dz_c s1.2.1))))), some (dz_I (s1.2.1 + 1)), some (dz_B q6), some (dz_I (s1.2.2 c0 11 (dz_c s1.2.1))), some (dz_I q9.1)]) (pc' := 135) rfl rfl rfl rfl ?_
        refine wp_s (i := .goto (-130)) (n := 3) (pc' := 5) (st' := []) rfl rfl ?_
        replace H := dz_back H
        exact H (some (bif q6 then 1 else 0)) (some (Int32.ofInt (s1.2.2 c0 11 (dz_c s1.2.1)))) (some (Int32.ofInt q9.1))
    · skip
      refine wq_if (p := q6 = false) (tt := 78) (pc' := 74) rfl rfl (cb_eq) rfl (fun c16 => ?_) (fun c16 => ?_)
      · replace H := dz_it c16 H
        refine wp_s (i := .iload 7) (n := 2) (pc' := 80) (st' := [dz_I q9.1, dz_I s1.2.1, .ref (c0 + 5)]) rfl rfl ?_
        replace H := dz_sm H
        exact H
      · replace H := dz_if c16 H
        refine wp_s (i := .iconst 0) (n := 1) (pc' := 75) (st' := [dz_I 0, dz_I s1.2.1, .ref (c0 + 5)]) rfl rfl ?_
        refine wp_s (i := .goto 5) (n := 3) (pc' := 80) (st' := [dz_I 0, dz_I s1.2.1, .ref (c0 + 5)]) rfl rfl ?_
        replace H := dz_sm H
        exact H
-- 12
def jf_F_passSecond (c0 : Nat) (a1 : Nat) (a2 : Nat) (a3 : Int) (Z : dz_Z) : Option (Int × dz_Z) := dz_a (dz_f Z c0 11 (Z c0 3)) fun Z1 => dz_a (dz_f Z1 c0 3 (fun _ => 0)) fun Z2 => dz_a (dz_f Z2 c0 10 (fun _ => 0)) fun Z3 => Option.bind (jf_F_fallOnRoofs c0 a1 a3 Z3) fun q4 => Option.bind (jf_F_runThroughGutters c0 a1 a2 q4) fun q5 => Option.bind (jf_F_fillCups c0 a1 a2 q5) fun q6 => dz_a (dz_u q6.2 c0 5 0 ((q6.2 c0 5 0) + 1)) fun Z7 => some (q6.1, Z7)
set_option maxRecDepth 20000 in
theorem jw_F_passSecond {X : Option (List Int32)} {D : Nat} {Q : Option Value → mm_H → Prop} (c0 : Nat) (hc0 : hz_isF c0) (a1 : Nat) (ha1 : hz_isP a1) (a2 : Nat) (ha2 : hz_isS a2) (a3 : Int) (Z : dz_Z) (H : dz_p (jf_F_passSecond c0 a1 a2 a3 Z) (fun q => Q (some (dz_I q.1)) (hz_0 q.2))) : mm_Wp X (D + 3) mm_r12 0 [some (.ref c0), some (.ref a1), some (.ref a2), some (dz_I a3), none] [] (hz_0 Z) Q := by
  unfold jf_F_passSecond at H
  refine wp_s (i := .aload_n 0) (n := 1) (pc' := 1) (st' := [.ref c0]) rfl rfl ?_
  refine wq_gr (idx := 22) (a := c0 + 4) (pc' := 4) rfl rfl (ho_F hc0) rfl rfl ?_
  refine wp_s (i := .iconst 0) (n := 1) (pc' := 5) (st' := [dz_I 0, .ref (c0 + 4)]) rfl rfl ?_
  refine wp_s (i := .aload_n 0) (n := 1) (pc' := 6) (st' := [.ref c0, dz_I 0, .ref (c0 + 4)]) rfl rfl ?_
  refine wq_gr (idx := 31) (a := c0 + 7) (pc' := 9) rfl rfl (ho_F hc0) rfl rfl ?_
  refine wp_s (i := .iconst 0) (n := 1) (pc' := 10) (st' := [dz_I 0, .ref (c0 + 7), dz_I 0, .ref (c0 + 4)]) rfl rfl ?_
  refine wp_s (i := .bipush 8) (n := 2) (pc' := 12) (st' := [dz_I 8, dz_I 0, .ref (c0 + 7), dz_I 0, .ref (c0 + 4)]) rfl rfl ?_
  refine wq_cp (Dp := (D + 2)) (n := 8) (tag := 0) (pc' := 15) rfl rfl (by decide) (ha_F_3 hc0) (ha_F_11 hc0) dk_8 rfl rfl (fun Z1 eZ1 => ?_)
  replace H := dz_le H Z1 eZ1
  clear eZ1
  refine wp_s (i := .aload_n 0) (n := 1) (pc' := 16) (st' := [.ref c0]) rfl rfl ?_
  refine wq_gr (idx := 22) (a := c0 + 4) (pc' := 19) rfl rfl (ho_F hc0) rfl rfl ?_
  refine wp_s (i := .iconst 0) (n := 1) (pc' := 20) (st' := [dz_I 0, .ref (c0 + 4)]) rfl rfl ?_
  refine wq_cs (Dq := (D + 2)) (r' := mm_r200) (as0 := [.ref (c0 + 4), dz_I 0]) (rest := []) (ls' := [some (.ref (c0 + 4)), some (dz_I 0), none, none]) (pc' := 23) rfl rfl (by decide) rfl rfl rfl rfl rfl ?_
  refine jw_fillI (ha_F_3 hc0) (by decide) (fun Z2 eZ2 => ?_)
  replace H := dz_le H Z2 eZ2
  clear eZ2
  show mm_Wp X (D + 3) mm_r12 23 [some (.ref c0), some (.ref a1), some (.ref a2), some (dz_I a3), none] [] (hz_0 Z2) Q
  refine wp_s (i := .aload_n 0) (n := 1) (pc' := 24) (st' := [.ref c0]) rfl rfl ?_
  refine wq_gr (idx := 28) (a := c0 + 6) (pc' := 27) rfl rfl (ho_F hc0) rfl rfl ?_
  refine wp_s (i := .iconst 0) (n := 1) (pc' := 28) (st' := [dz_I 0, .ref (c0 + 6)]) rfl rfl ?_
  refine wq_cs (Dq := (D + 2)) (r' := mm_r200) (as0 := [.ref (c0 + 6), dz_I 0]) (rest := []) (ls' := [some (.ref (c0 + 6)), some (dz_I 0), none, none]) (pc' := 31) rfl rfl (by decide) rfl rfl rfl rfl rfl ?_
  refine jw_fillI (ha_F_10 hc0) (by decide) (fun Z3 eZ3 => ?_)
  replace H := dz_le H Z3 eZ3
  clear eZ3
  show mm_Wp X (D + 3) mm_r12 31 [some (.ref c0), some (.ref a1), some (.ref a2), some (dz_I a3), none] [] (hz_0 Z3) Q
  refine wp_s (i := .aload_n 0) (n := 1) (pc' := 32) (st' := [.ref c0]) rfl rfl ?_
  refine wp_s (i := .aload_n 1) (n := 1) (pc' := 33) (st' := [.ref a1, .ref c0]) rfl rfl ?_
  refine wp_s (i := .iload_n 3) (n := 1) (pc' := 34) (st' := [dz_I a3, .ref a1, .ref c0]) rfl rfl ?_
  refine wq_cv (Dq := (D + 2)) (r' := mm_r13) (as0 := [.ref a1, dz_I a3]) (rest := []) (ls' := [some (.ref c0), some (.ref a1), some (dz_I a3), none, none]) (pc' := 37) rfl rfl rfl rfl (ho_F hc0) rfl rfl rfl ?_
  refine jw_F_fallOnRoofs (X := X) (D := D + 1) c0 hc0 a1 ha1 a3 Z3 (dz_pm (dz_bi H) (fun q4 H => ?_))
  show mm_Wp X (D + 3) mm_r12 37 [some (.ref c0), some (.ref a1), some (.ref a2), some (dz_I a3), none] [] (hz_0 q4) Q
  refine wp_s (i := .aload_n 0) (n := 1) (pc' := 38) (st' := [.ref c0]) rfl rfl ?_
  refine wp_s (i := .aload_n 1) (n := 1) (pc' := 39) (st' := [.ref a1, .ref c0]) rfl rfl ?_
  refine wp_s (i := .aload_n 2) (n := 1) (pc' := 40) (st' := [.ref a2, .ref a1, .ref c0]) rfl rfl ?_
  refine wq_cv (Dq := (D + 2)) (r' := mm_r14) (as0 := [.ref a1, .ref a2]) (rest := []) (ls' := [some (.ref c0), some (.ref a1), some (.ref a2), none, none, none]) (pc' := 43) rfl rfl rfl rfl (ho_F hc0) rfl rfl rfl ?_
  refine jw_F_runThroughGutters (X := X) (D := D + 1) c0 hc0 a1 ha1 a2 ha2 q4 (dz_pm (dz_bi H) (fun q5 H => ?_))
  show mm_Wp X (D + 3) mm_r12 43 [some (.ref c0), some (.ref a1), some (.ref a2), some (dz_I a3), none] [] (hz_0 q5) Q
  refine wp_s (i := .aload_n 0) (n := 1) (pc' := 44) (st' := [.ref c0]) rfl rfl ?_
  refine wp_s (i := .aload_n 1) (n := 1) (pc' := 45) (st' := [.ref a1, .ref c0]) rfl rfl ?_
  refine wp_s (i := .aload_n 2) (n := 1) (pc' := 46) (st' := [.ref a2, .ref a1, .ref c0]) rfl rfl ?_
  refine wq_cv (Dq := (D + 2)) (r' := mm_r17) (as0 := [.ref a1, .ref a2]) (rest := []) (ls' := [some (.ref c0), some (.ref a1), some (.ref a2), none, none, none, none, none]) (pc' := 49) rfl rfl rfl rfl (ho_F hc0) rfl rfl rfl ?_
  refine jw_F_fillCups (X := X) (D := D + 0) c0 hc0 a1 ha1 a2 ha2 q5 (dz_pm (dz_bi H) (fun q6 H => ?_))
  show mm_Wp X (D + 3) mm_r12 49 [some (.ref c0), some (.ref a1), some (.ref a2), some (dz_I a3), none] [dz_I q6.1] (hz_0 q6.2) Q
  refine wq_st (k := 4) (i := .istore 4) (n := 2) (ls' := [some (.ref c0), some (.ref a1), some (.ref a2), some (dz_I a3), some (dz_I q6.1)]) (pc' := 51) rfl rfl rfl rfl rfl ?_
  refine wp_s (i := .aload_n 0) (n := 1) (pc' := 52) (st' := [.ref c0]) rfl rfl ?_
  refine wp_s (i := .dup) (n := 1) (pc' := 53) (st' := [.ref c0, .ref c0]) rfl rfl ?_
  refine wq_gi (idx := 43) (pc' := 56) rfl rfl (ho_F hc0) rfl rfl ?_
  refine wp_s (i := .iconst 1) (n := 1) (pc' := 57) (st' := [dz_I 1, dz_I (q6.2 c0 5 0), .ref c0]) rfl rfl ?_
  refine wq_2 (i := .iadd) (z := (q6.2 c0 5 0) + 1) (pc' := 58) rfl rfl (op_add _ _) rfl ?_
  refine wq_pi (idx := 43) (x := (q6.2 c0 5 0) + 1) (pc' := 61) rfl rfl rfl (ho_F hc0) rfl rfl rfl rfl (fun Z7 eZ7 => ?_)
  replace H := dz_le H Z7 eZ7
  clear eZ7
  refine wp_s (i := .iload 4) (n := 2) (pc' := 63) (st' := [dz_I q6.1]) rfl rfl ?_
  refine wq_ri rfl rfl ?_
  replace H := dz_sm H
  exact H
-- 5
def jf_C_perform (a1 : Nat) (a2 : Nat) (a3 : Int) (Z : dz_Z) : Option (dz_Z) := Option.bind (jf_F_dryUp 55 Z) fun q1 => if 0 ≤ dz_c a3 ∧ dz_c a3 < 3 then dz_a (dz_u q1 54 3 0 (q1 a2 3 (dz_c a3))) fun Z3 => dz_lp (fun (s4 : Int × dz_Z) => if dz_c (s4.2 54 3 0) ≤ dz_c s4.1 then (some (Sum.inr s4.2)) else (if 0 ≤ dz_c s4.1 ∧ dz_c s4.1 < 12 then Option.bind (jf_F_passSecond 55 a1 a2 (s4.2 a2 (20 + Int.toNat (dz_c a3)) (dz_c s4.1)) s4.2) fun q8 => dz_a (dz_u q8.2 54 1 (dz_c s4.1) q8.1) fun Z9 => dz_a (dz_u Z9 54 2 (dz_c s4.1) ((Z9 55 8 0) - (s4.2 55 8 0))) fun Z10 => some (Sum.inl (s4.1 + 1, Z10)) else none)) 5000 (0, Z3) else none
set_option maxRecDepth 20000 in
theorem jw_C_perform {X : Option (List Int32)} {D : Nat} {Q : Option Value → mm_H → Prop} (a1 : Nat) (ha1 : hz_isP a1) (a2 : Nat) (ha2 : hz_isS a2) (a3 : Int) (Z : dz_Z) (H : dz_p (jf_C_perform a1 a2 a3 Z) (fun q => Q (none) (hz_0 q))) : mm_Wp X (D + 4) mm_r5 0 [some (.ref 54), some (.ref a1), some (.ref a2), some (dz_I a3), none, none] [] (hz_0 Z) Q := by
  unfold jf_C_perform at H
  refine wp_s (i := .aload_n 0) (n := 1) (pc' := 1) (st' := [.ref 54]) rfl rfl ?_
  refine wq_gr (idx := 12) (a := 55) (pc' := 4) rfl rfl ho_C rfl rfl ?_
  refine wq_cv (Dq := (D + 3)) (r' := mm_r10) (as0 := []) (rest := []) (ls' := [some (.ref 55)]) (pc' := 7) rfl rfl rfl rfl (ho_F (Or.inr (Or.inl rfl))) rfl rfl rfl ?_
  refine jw_F_dryUp (X := X) (D := D + 2) 55 (Or.inr (Or.inl rfl)) Z (dz_pm (dz_bi H) (fun q1 H => ?_))
  show mm_Wp X (D + 4) mm_r5 7 [some (.ref 54), some (.ref a1), some (.ref a2), some (dz_I a3), none, none] [] (hz_0 q1) Q
  refine wp_s (i := .aload_n 0) (n := 1) (pc' := 8) (st' := [.ref 54]) rfl rfl ?_
  refine wp_s (i := .aload_n 2) (n := 1) (pc' := 9) (st' := [.ref a2, .ref 54]) rfl rfl ?_
  refine wq_gr (idx := 28) (a := a2 + 4) (pc' := 12) rfl rfl (ho_S ha2) rfl rfl ?_
  refine wp_s (i := .iload_n 3) (n := 1) (pc' := 13) (st' := [dz_I a3, .ref (a2 + 4), .ref 54]) rfl rfl ?_
  obtain ⟨k2, H⟩ := dz_ck H
  refine wq_ia (j' := dz_c a3) (pc' := 14) rfl (ha_S_3 ha2) rfl k2.1 k2.2 rfl ?_
  refine wq_pi (idx := 33) (x := q1 a2 3 (dz_c a3)) (pc' := 17) rfl rfl rfl ho_C rfl rfl rfl rfl (fun Z3 eZ3 => ?_)
  replace H := dz_le H Z3 eZ3
  clear eZ3
  refine wp_s (i := .iconst 0) (n := 1) (pc' := 18) (st' := [dz_I 0]) rfl rfl ?_
  refine wq_st (k := 4) (i := .istore 4) (n := 2) (ls' := [some (.ref 54), some (.ref a1), some (.ref a2), some (dz_I a3), some (dz_I 0), none]) (pc' := 20) rfl rfl rfl rfl rfl ?_
  refine dz_lpi (P := fun (s4 : Int × dz_Z) => ∀ (u5 : Option Int32), mm_Wp X (D + 4) mm_r5 20 [some (.ref 54), some (.ref a1), some (.ref a2), some (dz_I a3), some (dz_I s4.1), Option.map Value.int u5] [] (hz_0 s4.2) Q) (fun s4 H => ?_) 5000 (0, Z3) H none
  intro u5
  refine wp_s (i := .iload 4) (n := 2) (pc' := 22) (st' := [dz_I s4.1]) rfl rfl ?_
  refine wp_s (i := .aload_n 0) (n := 1) (pc' := 23) (st' := [.ref 54, dz_I s4.1]) rfl rfl ?_
  refine wq_gi (idx := 33) (pc' := 26) rfl rfl ho_C rfl rfl ?_
  refine wq_ic (p := dz_c (s4.2 54 3 0) ≤ dz_c s4.1) (tt := 86) (pc' := 29) rfl rfl (cq_ge rfl rfl) rfl (fun c6 => ?_) (fun c6 => ?_)
  · replace H := dz_it c6 H
    refine wq_rv rfl rfl ?_
    replace H := dz_out H
    replace H := dz_sm H
    exact H
  · replace H := dz_if c6 H
    refine wp_s (i := .aload_n 0) (n := 1) (pc' := 30) (st' := [.ref 54]) rfl rfl ?_
    refine wq_gr (idx := 12) (a := 55) (pc' := 33) rfl rfl ho_C rfl rfl ?_
    refine wq_gi (idx := 37) (pc' := 36) rfl rfl (ho_F (Or.inr (Or.inl rfl))) rfl rfl ?_
    refine wq_st (k := 5) (i := .istore 5) (n := 2) (ls' := [some (.ref 54), some (.ref a1), some (.ref a2), some (dz_I a3), some (dz_I s4.1), some (dz_I (s4.2 55 8 0))]) (pc' := 38) rfl rfl rfl rfl rfl ?_
    refine wp_s (i := .aload_n 0) (n := 1) (pc' := 39) (st' := [.ref 54]) rfl rfl ?_
    refine wq_gr (idx := 18) (a := 63) (pc' := 42) rfl rfl ho_C rfl rfl ?_
    refine wp_s (i := .iload 4) (n := 2) (pc' := 44) (st' := [dz_I s4.1, .ref 63]) rfl rfl ?_
    refine wp_s (i := .aload_n 0) (n := 1) (pc' := 45) (st' := [.ref 54, dz_I s4.1, .ref 63]) rfl rfl ?_
    refine wq_gr (idx := 12) (a := 55) (pc' := 48) rfl rfl ho_C rfl rfl ?_
    refine wp_s (i := .aload_n 1) (n := 1) (pc' := 49) (st' := [.ref a1, .ref 55, dz_I s4.1, .ref 63]) rfl rfl ?_
    refine wp_s (i := .aload_n 2) (n := 1) (pc' := 50) (st' := [.ref a2, .ref a1, .ref 55, dz_I s4.1, .ref 63]) rfl rfl ?_
    refine wp_s (i := .aload_n 2) (n := 1) (pc' := 51) (st' := [.ref a2, .ref a2, .ref a1, .ref 55, dz_I s4.1, .ref 63]) rfl rfl ?_
    refine wq_gr (idx := 40) (a := a2 + 5) (pc' := 54) rfl rfl (ho_S ha2) rfl rfl ?_
    refine wp_s (i := .iload_n 3) (n := 1) (pc' := 55) (st' := [dz_I a3, .ref (a2 + 5), .ref a2, .ref a1, .ref 55, dz_I s4.1, .ref 63]) rfl rfl ?_
    refine wq_aa (j' := dz_c a3) (a := a2 + 6 + Int.toNat (dz_c a3)) (pc' := 56) rfl (by decide) (ha_S_4 ha2) rfl k2.1 k2.2 (hr_S k2.1 k2.2) rfl ?_
    refine wp_s (i := .iload 4) (n := 2) (pc' := 58) (st' := [dz_I s4.1, .ref (a2 + 6 + Int.toNat (dz_c a3)), .ref a2, .ref a1, .ref 55, dz_I s4.1, .ref 63]) rfl rfl ?_
    obtain ⟨k7, H⟩ := dz_ck H
    refine wq_ia (j' := dz_c s4.1) (pc' := 59) rfl (ha_Sr ha2 k2.1 k2.2) rfl k7.1 k7.2 rfl ?_
    refine wq_cv (Dq := (D + 3)) (r' := mm_r12) (as0 := [.ref a1, .ref a2, dz_I (s4.2 a2 (20 + Int.toNat (dz_c a3)) (dz_c s4.1))]) (rest := [dz_I s4.1, .ref 63]) (ls' := [some (.ref 55), some (.ref a1), some (.ref a2), some (dz_I (s4.2 a2 (20 + Int.toNat (dz_c a3)) (dz_c s4.1))), none]) (pc' := 62) rfl rfl rfl rfl (ho_F (Or.inr (Or.inl rfl))) rfl rfl rfl ?_
    refine jw_F_passSecond (X := X) (D := D + 0) 55 (Or.inr (Or.inl rfl)) a1 ha1 a2 ha2 (s4.2 a2 (20 + Int.toNat (dz_c a3)) (dz_c s4.1)) s4.2 (dz_pm (dz_bi H) (fun q8 H => ?_))
    show mm_Wp X (D + 4) mm_r5 62 [some (.ref 54), some (.ref a1), some (.ref a2), some (dz_I a3), some (dz_I s4.1), some (dz_I (s4.2 55 8 0))] [dz_I q8.1, dz_I s4.1, .ref 63] (hz_0 q8.2) Q
    refine wq_is (j' := dz_c s4.1) (x := q8.1) (pc' := 63) rfl ha_C_1 rfl k7.1 k7.2 rfl (fun Z9 eZ9 => ?_)
    replace H := dz_le H Z9 eZ9
    clear eZ9
    refine wp_s (i := .aload_n 0) (n := 1) (pc' := 64) (st' := [.ref 54]) rfl rfl ?_
    refine wq_gr (idx := 22) (a := 64) (pc' := 67) rfl rfl ho_C rfl rfl ?_
    refine wp_s (i := .iload 4) (n := 2) (pc' := 69) (st' := [dz_I s4.1, .ref 64]) rfl rfl ?_
    refine wp_s (i := .aload_n 0) (n := 1) (pc' := 70) (st' := [.ref 54, dz_I s4.1, .ref 64]) rfl rfl ?_
    refine wq_gr (idx := 12) (a := 55) (pc' := 73) rfl rfl ho_C rfl rfl ?_
    refine wq_gi (idx := 37) (pc' := 76) rfl rfl (ho_F (Or.inr (Or.inl rfl))) rfl rfl ?_
    refine wp_s (i := .iload 5) (n := 2) (pc' := 78) (st' := [dz_I (s4.2 55 8 0), dz_I (Z9 55 8 0), dz_I s4.1, .ref 64]) rfl rfl ?_
    refine wq_2 (i := .isub) (z := (Z9 55 8 0) - (s4.2 55 8 0)) (pc' := 79) rfl rfl (op_sub _ _) rfl ?_
    refine wq_is (j' := dz_c s4.1) (x := (Z9 55 8 0) - (s4.2 55 8 0)) (pc' := 80) rfl ha_C_2 rfl k7.1 k7.2 rfl (fun Z10 eZ10 => ?_)
    replace H := dz_le H Z10 eZ10
    clear eZ10
    refine wq_inc (k := 4) (d := 1) (x := s4.1) (ls' := [some (.ref 54), some (.ref a1), some (.ref a2), some (dz_I a3), some (dz_I (s4.1 + 1)), some (dz_I (s4.2 55 8 0))]) (pc' := 83) rfl rfl rfl rfl ?_
    refine wp_s (i := .goto (-63)) (n := 3) (pc' := 20) (st' := []) rfl rfl ?_
    replace H := dz_back H
    exact H (some (Int32.ofInt (s4.2 55 8 0)))
-- 192
def jf_J_bitCount (a1 : Int) : Option (Int) := dz_a ((dz_an (a1 - (dz_an (dz_ur a1 1) 1431655765)) 858993459) + (dz_an (dz_ur (a1 - (dz_an (dz_ur a1 1) 1431655765)) 2) 858993459)) fun x1 => dz_a ((dz_an (x1 + (dz_ur x1 4)) 252645135) + (dz_ur (dz_an (x1 + (dz_ur x1 4)) 252645135) 8)) fun x2 => some (dz_an (x2 + (dz_ur x2 16)) 63)
set_option maxRecDepth 20000 in
theorem jw_J_bitCount {X : Option (List Int32)} {D : Nat} {Q : Option Value → mm_H → Prop} (a1 : Int) (Z : dz_Z) (H : dz_p (jf_J_bitCount a1) (fun q => Q (some (dz_I q)) (hz_0 Z))) : mm_Wp X D mm_r192 0 [some (dz_I a1)] [] (hz_0 Z) Q := by
  unfold jf_J_bitCount at H
  refine wp_s (i := .iload_n 0) (n := 1) (pc' := 1) (st' := [dz_I a1]) rfl rfl ?_
  refine wp_s (i := .iload_n 0) (n := 1) (pc' := 2) (st' := [dz_I a1, dz_I a1]) rfl rfl ?_
  refine wp_s (i := .iconst 1) (n := 1) (pc' := 3) (st' := [dz_I 1, dz_I a1, dz_I a1]) rfl rfl ?_
  refine wq_2 (i := .iushr) (z := dz_ur a1 1) (pc' := 4) rfl rfl (op_ushr _ _) rfl ?_
  refine wp_s (i := .ldc_w 265) (n := 3) (pc' := 7) (st' := [dz_I 1431655765, dz_I (dz_ur a1 1), dz_I a1]) rfl rfl ?_
  refine wq_2 (i := .iand) (z := dz_an (dz_ur a1 1) 1431655765) (pc' := 8) rfl rfl (op_and _ _) rfl ?_
  refine wq_2 (i := .isub) (z := a1 - (dz_an (dz_ur a1 1) 1431655765)) (pc' := 9) rfl rfl (op_sub _ _) rfl ?_
  refine wq_st (k := 0) (i := .istore_n 0) (n := 1) (ls' := [some (dz_I (a1 - (dz_an (dz_ur a1 1) 1431655765)))]) (pc' := 10) rfl rfl rfl rfl rfl ?_
  refine wp_s (i := .iload_n 0) (n := 1) (pc' := 11) (st' := [dz_I (a1 - (dz_an (dz_ur a1 1) 1431655765))]) rfl rfl ?_
  refine wp_s (i := .ldc_w 266) (n := 3) (pc' := 14) (st' := [dz_I 858993459, dz_I (a1 - (dz_an (dz_ur a1 1) 1431655765))]) rfl rfl ?_
  refine wq_2 (i := .iand) (z := dz_an (a1 - (dz_an (dz_ur a1 1) 1431655765)) 858993459) (pc' := 15) rfl rfl (op_and _ _) rfl ?_
  refine wp_s (i := .iload_n 0) (n := 1) (pc' := 16) (st' := [dz_I (a1 - (dz_an (dz_ur a1 1) 1431655765)), dz_I (dz_an (a1 - (dz_an (dz_ur a1 1) 1431655765)) 858993459)]) rfl rfl ?_
  refine wp_s (i := .iconst 2) (n := 1) (pc' := 17) (st' := [dz_I 2, dz_I (a1 - (dz_an (dz_ur a1 1) 1431655765)), dz_I (dz_an (a1 - (dz_an (dz_ur a1 1) 1431655765)) 858993459)]) rfl rfl ?_
  refine wq_2 (i := .iushr) (z := dz_ur (a1 - (dz_an (dz_ur a1 1) 1431655765)) 2) (pc' := 18) rfl rfl (op_ushr _ _) rfl ?_
  refine wp_s (i := .ldc_w 266) (n := 3) (pc' := 21) (st' := [dz_I 858993459, dz_I (dz_ur (a1 - (dz_an (dz_ur a1 1) 1431655765)) 2), dz_I (dz_an (a1 - (dz_an (dz_ur a1 1) 1431655765)) 858993459)]) rfl rfl ?_
  refine wq_2 (i := .iand) (z := dz_an (dz_ur (a1 - (dz_an (dz_ur a1 1) 1431655765)) 2) 858993459) (pc' := 22) rfl rfl (op_and _ _) rfl ?_
  refine wq_2 (i := .iadd) (z := (dz_an (a1 - (dz_an (dz_ur a1 1) 1431655765)) 858993459) + (dz_an (dz_ur (a1 - (dz_an (dz_ur a1 1) 1431655765)) 2) 858993459)) (pc' := 23) rfl rfl (op_add _ _) rfl ?_
  refine wq_sa (k := 0) (F := fun x1 => [some (dz_I x1)]) (i := .istore_n 0) (n := 1) (pc' := 24) rfl rfl (fun _ => rfl) (fun _ => rfl) rfl (fun x1 ex1 => ?_)
  show mm_Wp _ _ _ 24 [some (dz_I x1)] [] _ _
  replace H := dz_le H x1 ex1
  clear ex1
  refine wp_s (i := .iload_n 0) (n := 1) (pc' := 25) (st' := [dz_I x1]) rfl rfl ?_
  refine wp_s (i := .iload_n 0) (n := 1) (pc' := 26) (st' := [dz_I x1, dz_I x1]) rfl rfl ?_
  refine wp_s (i := .iconst 4) (n := 1) (pc' := 27) (st' := [dz_I 4, dz_I x1, dz_I x1]) rfl rfl ?_
  refine wq_2 (i := .iushr) (z := dz_ur x1 4) (pc' := 28) rfl rfl (op_ushr _ _) rfl ?_
  refine wq_2 (i := .iadd) (z := x1 + (dz_ur x1 4)) (pc' := 29) rfl rfl (op_add _ _) rfl ?_
  refine wp_s (i := .ldc_w 267) (n := 3) (pc' := 32) (st' := [dz_I 252645135, dz_I (x1 + (dz_ur x1 4))]) rfl rfl ?_
  refine wq_2 (i := .iand) (z := dz_an (x1 + (dz_ur x1 4)) 252645135) (pc' := 33) rfl rfl (op_and _ _) rfl ?_
  refine wq_st (k := 0) (i := .istore_n 0) (n := 1) (ls' := [some (dz_I (dz_an (x1 + (dz_ur x1 4)) 252645135))]) (pc' := 34) rfl rfl rfl rfl rfl ?_
  refine wp_s (i := .iload_n 0) (n := 1) (pc' := 35) (st' := [dz_I (dz_an (x1 + (dz_ur x1 4)) 252645135)]) rfl rfl ?_
  refine wp_s (i := .iload_n 0) (n := 1) (pc' := 36) (st' := [dz_I (dz_an (x1 + (dz_ur x1 4)) 252645135), dz_I (dz_an (x1 + (dz_ur x1 4)) 252645135)]) rfl rfl ?_
  refine wp_s (i := .bipush 8) (n := 2) (pc' := 38) (st' := [dz_I 8, dz_I (dz_an (x1 + (dz_ur x1 4)) 252645135), dz_I (dz_an (x1 + (dz_ur x1 4)) 252645135)]) rfl rfl ?_
  refine wq_2 (i := .iushr) (z := dz_ur (dz_an (x1 + (dz_ur x1 4)) 252645135) 8) (pc' := 39) rfl rfl (op_ushr _ _) rfl ?_
  refine wq_2 (i := .iadd) (z := (dz_an (x1 + (dz_ur x1 4)) 252645135) + (dz_ur (dz_an (x1 + (dz_ur x1 4)) 252645135) 8)) (pc' := 40) rfl rfl (op_add _ _) rfl ?_
  refine wq_sa (k := 0) (F := fun x2 => [some (dz_I x2)]) (i := .istore_n 0) (n := 1) (pc' := 41) rfl rfl (fun _ => rfl) (fun _ => rfl) rfl (fun x2 ex2 => ?_)
  show mm_Wp _ _ _ 41 [some (dz_I x2)] [] _ _
  replace H := dz_le H x2 ex2
  clear ex2
  refine wp_s (i := .iload_n 0) (n := 1) (pc' := 42) (st' := [dz_I x2]) rfl rfl ?_
  refine wp_s (i := .iload_n 0) (n := 1) (pc' := 43) (st' := [dz_I x2, dz_I x2]) rfl rfl ?_
  refine wp_s (i := .bipush 16) (n := 2) (pc' := 45) (st' := [dz_I 16, dz_I x2, dz_I x2]) rfl rfl ?_
  refine wq_2 (i := .iushr) (z := dz_ur x2 16) (pc' := 46) rfl rfl (op_ushr _ _) rfl ?_
  refine wq_2 (i := .iadd) (z := x2 + (dz_ur x2 16)) (pc' := 47) rfl rfl (op_add _ _) rfl ?_
  refine wq_st (k := 0) (i := .istore_n 0) (n := 1) (ls' := [some (dz_I (x2 + (dz_ur x2 16)))]) (pc' := 48) rfl rfl rfl rfl rfl ?_
  refine wp_s (i := .iload_n 0) (n := 1) (pc' := 49) (st' := [dz_I (x2 + (dz_ur x2 16))]) rfl rfl ?_
  refine wp_s (i := .bipush 63) (n := 2) (pc' := 51) (st' := [dz_I 63, dz_I (x2 + (dz_ur x2 16))]) rfl rfl ?_
  refine wq_2 (i := .iand) (z := dz_an (x2 + (dz_ur x2 16)) 63) (pc' := 52) rfl rfl (op_and _ _) rfl ?_
  refine wq_ri rfl rfl ?_
  replace H := dz_sm H
  exact H
-- 6
def jf_C_farFromTune (a1 : Nat) (Z : dz_Z) : Option (Int) := dz_lp (fun (s1 : Int × Int) => if 12 ≤ dz_c s1.2 then (some (Sum.inr s1.1)) else (Option.bind (α := Int) (if dz_c (Z 54 3 0) ≤ dz_c s1.2 then (some 0) else (if 0 ≤ dz_c s1.2 ∧ dz_c s1.2 < 12 then some (Z 54 1 (dz_c s1.2)) else none)) (fun (q7 : Int) => Option.bind (α := Int) (if dz_c (Z a1 6 0) ≤ dz_c s1.2 then (some 0) else (if 0 ≤ dz_c s1.2 ∧ dz_c s1.2 < 12 then some (Z a1 5 (dz_c s1.2)) else none)) (fun (q10 : Int) => Option.bind (jf_J_bitCount (dz_xo q7 q10)) fun q11 => some (Sum.inl (s1.1 + q11, s1.2 + 1)))))) 5000 (0, 0)
set_option maxRecDepth 20000 in
theorem jw_C_farFromTune {X : Option (List Int32)} {D : Nat} {Q : Option Value → mm_H → Prop} (a1 : Nat) (ha1 : hz_isS a1) (Z : dz_Z) (H : dz_p (jf_C_farFromTune a1 Z) (fun q => Q (some (dz_I q)) (hz_0 Z))) : mm_Wp X (D + 1) mm_r6 0 [some (.ref 54), some (.ref a1), none, none, none, none] [] (hz_0 Z) Q := by
  unfold jf_C_farFromTune at H
  refine wp_s (i := .iconst 0) (n := 1) (pc' := 1) (st' := [dz_I 0]) rfl rfl ?_
  refine wq_st (k := 2) (i := .istore_n 2) (n := 1) (ls' := [some (.ref 54), some (.ref a1), some (dz_I 0), none, none, none]) (pc' := 2) rfl rfl rfl rfl rfl ?_
  refine wp_s (i := .iconst 0) (n := 1) (pc' := 3) (st' := [dz_I 0]) rfl rfl ?_
  refine wq_st (k := 3) (i := .istore_n 3) (n := 1) (ls' := [some (.ref 54), some (.ref a1), some (dz_I 0), some (dz_I 0), none, none]) (pc' := 4) rfl rfl rfl rfl rfl ?_
  refine dz_lpi (P := fun (s1 : Int × Int) => ∀ (u2 u3 : Option Int32), mm_Wp X (D + 1) mm_r6 4 [some (.ref 54), some (.ref a1), some (dz_I s1.1), some (dz_I s1.2), Option.map Value.int u2, Option.map Value.int u3] [] (hz_0 Z) Q) (fun s1 H => ?_) 5000 (0, 0) H none none
  intro u2 u3
  refine wp_s (i := .iload_n 3) (n := 1) (pc' := 5) (st' := [dz_I s1.2]) rfl rfl ?_
  refine wp_s (i := .bipush 12) (n := 2) (pc' := 7) (st' := [dz_I 12, dz_I s1.2]) rfl rfl ?_
  refine wq_ic (p := 12 ≤ dz_c s1.2) (tt := 67) (pc' := 10) rfl rfl (cq_ge rfl dk_12) rfl (fun c4 => ?_) (fun c4 => ?_)
  · replace H := dz_it c4 H
    refine wp_s (i := .iload_n 2) (n := 1) (pc' := 68) (st' := [dz_I s1.1]) rfl rfl ?_
    refine wq_ri rfl rfl ?_
    replace H := dz_out H
    replace H := dz_sm H
    exact H
  · replace H := dz_if c4 H
    refine wp_s (i := .iload_n 3) (n := 1) (pc' := 11) (st' := [dz_I s1.2]) rfl rfl ?_
    refine wp_s (i := .aload_n 0) (n := 1) (pc' := 12) (st' := [.ref 54, dz_I s1.2]) rfl rfl ?_
    refine wq_gi (idx := 33) (pc' := 15) rfl rfl ho_C rfl rfl ?_
    refine dz_jn (P := fun (q7 : Int) => mm_Wp X (D + 1) mm_r6 28 [some (.ref 54), some (.ref a1), some (dz_I s1.1), some (dz_I s1.2), Option.map Value.int u2, Option.map Value.int u3] [dz_I q7] (hz_0 Z) Q) (dz_bi H) (fun q7 H => ?_) (fun H => ?_)
    · skip
      refine wq_st (k := 4) (i := .istore 4) (n := 2) (ls' := [some (.ref 54), some (.ref a1), some (dz_I s1.1), some (dz_I s1.2), some (dz_I q7), Option.map Value.int u3]) (pc' := 30) rfl rfl rfl rfl rfl ?_
      refine wp_s (i := .iload_n 3) (n := 1) (pc' := 31) (st' := [dz_I s1.2]) rfl rfl ?_
      refine wp_s (i := .aload_n 1) (n := 1) (pc' := 32) (st' := [.ref a1, dz_I s1.2]) rfl rfl ?_
      refine wq_gi (idx := 48) (pc' := 35) rfl rfl (ho_S ha1) rfl rfl ?_
      refine dz_jn (P := fun (q10 : Int) => mm_Wp X (D + 1) mm_r6 48 [some (.ref 54), some (.ref a1), some (dz_I s1.1), some (dz_I s1.2), some (dz_I q7), Option.map Value.int u3] [dz_I q10] (hz_0 Z) Q) (dz_bi H) (fun q10 H => ?_) (fun H => ?_)
      · skip
        refine wq_st (k := 5) (i := .istore 5) (n := 2) (ls' := [some (.ref 54), some (.ref a1), some (dz_I s1.1), some (dz_I s1.2), some (dz_I q7), some (dz_I q10)]) (pc' := 50) rfl rfl rfl rfl rfl ?_
        refine wp_s (i := .iload_n 2) (n := 1) (pc' := 51) (st' := [dz_I s1.1]) rfl rfl ?_
        refine wp_s (i := .iload 4) (n := 2) (pc' := 53) (st' := [dz_I q7, dz_I s1.1]) rfl rfl ?_
        refine wp_s (i := .iload 5) (n := 2) (pc' := 55) (st' := [dz_I q10, dz_I q7, dz_I s1.1]) rfl rfl ?_
        refine wq_2 (i := .ixor) (z := dz_xo q7 q10) (pc' := 56) rfl rfl (op_xor _ _) rfl ?_
        refine wq_cs (Dq := D) (r' := mm_r192) (as0 := [dz_I (dz_xo q7 q10)]) (rest := [dz_I s1.1]) (ls' := [some (dz_I (dz_xo q7 q10))]) (pc' := 59) rfl rfl (by decide) rfl rfl rfl rfl rfl ?_
        refine jw_J_bitCount (X := X) (D := D + 0) (dz_xo q7 q10) Z (dz_pm (dz_bi H) (fun q11 H => ?_))
        show mm_Wp X (D + 1) mm_r6 59 [some (.ref 54), some (.ref a1), some (dz_I s1.1), some (dz_I s1.2), some (dz_I q7), some (dz_I q10)] [dz_I q11, dz_I s1.1] (hz_0 Z) Q
        refine wq_2 (i := .iadd) (z := s1.1 + q11) (pc' := 60) rfl rfl (op_add _ _) rfl ?_
        refine wq_st (k := 2) (i := .istore_n 2) (n := 1) (ls' := [some (.ref 54), some (.ref a1), some (dz_I (s1.1 + q11)), some (dz_I s1.2), some (dz_I q7), some (dz_I q10)]) (pc' := 61) rfl rfl rfl rfl rfl ?_
        refine wq_inc (k := 3) (d := 1) (x := s1.2) (ls' := [some (.ref 54), some (.ref a1), some (dz_I (s1.1 + q11)), some (dz_I (s1.2 + 1)), some (dz_I q7), some (dz_I q10)]) (pc' := 64) rfl rfl rfl rfl ?_
        refine wp_s (i := .goto (-60)) (n := 3) (pc' := 4) (st' := []) rfl rfl ?_
        replace H := dz_back H
        exact H (some (Int32.ofInt q7)) (some (Int32.ofInt q10))
      · skip
        refine wq_ic (p := dz_c (Z a1 6 0) ≤ dz_c s1.2) (tt := 47) (pc' := 38) rfl rfl (cq_ge rfl rfl) rfl (fun c12 => ?_) (fun c12 => ?_)
        · replace H := dz_it c12 H
          refine wp_s (i := .iconst 0) (n := 1) (pc' := 48) (st' := [dz_I 0]) rfl rfl ?_
          replace H := dz_sm H
          exact H
        · replace H := dz_if c12 H
          refine wp_s (i := .aload_n 1) (n := 1) (pc' := 39) (st' := [.ref a1]) rfl rfl ?_
          refine wq_gr (idx := 51) (a := a1 + 9) (pc' := 42) rfl rfl (ho_S ha1) rfl rfl ?_
          refine wp_s (i := .iload_n 3) (n := 1) (pc' := 43) (st' := [dz_I s1.2, .ref (a1 + 9)]) rfl rfl ?_
          obtain ⟨k13, H⟩ := dz_ck H
          refine wq_ia (j' := dz_c s1.2) (pc' := 44) rfl (ha_S_5 ha1) rfl k13.1 k13.2 rfl ?_
          refine wp_s (i := .goto 4) (n := 3) (pc' := 48) (st' := [dz_I (Z a1 5 (dz_c s1.2))]) rfl rfl ?_
          replace H := dz_sm H
          exact H
    · skip
      refine wq_ic (p := dz_c (Z 54 3 0) ≤ dz_c s1.2) (tt := 27) (pc' := 18) rfl rfl (cq_ge rfl rfl) rfl (fun c14 => ?_) (fun c14 => ?_)
      · replace H := dz_it c14 H
        refine wp_s (i := .iconst 0) (n := 1) (pc' := 28) (st' := [dz_I 0]) rfl rfl ?_
        replace H := dz_sm H
        exact H
      · replace H := dz_if c14 H
        refine wp_s (i := .aload_n 0) (n := 1) (pc' := 19) (st' := [.ref 54]) rfl rfl ?_
        refine wq_gr (idx := 18) (a := 63) (pc' := 22) rfl rfl ho_C rfl rfl ?_
        refine wp_s (i := .iload_n 3) (n := 1) (pc' := 23) (st' := [dz_I s1.2, .ref 63]) rfl rfl ?_
        obtain ⟨k15, H⟩ := dz_ck H
        refine wq_ia (j' := dz_c s1.2) (pc' := 24) rfl ha_C_1 rfl k15.1 k15.2 rfl ?_
        refine wp_s (i := .goto 4) (n := 3) (pc' := 28) (st' := [dz_I (Z 54 1 (dz_c s1.2))]) rfl rfl ?_
        replace H := dz_sm H
        exact H
-- 7
def jf_C_loudestSecond (Z : dz_Z) : Option (Int) := dz_lp (fun (s1 : Int × Int × Int) => if dz_c (Z 54 3 0) ≤ dz_c s1.2.2 then (some (Sum.inr s1.2.1)) else (if 0 ≤ dz_c s1.2.2 ∧ dz_c s1.2.2 < 12 then if dz_c (Z 54 2 (dz_c s1.2.2)) ≤ dz_c s1.1 then (some (Sum.inl (s1.1, s1.2.1, s1.2.2 + 1))) else (some (Sum.inl (Z 54 2 (dz_c s1.2.2), s1.2.2, s1.2.2 + 1))) else none)) 5000 (0, (-4), 0)
set_option maxRecDepth 20000 in
theorem jw_C_loudestSecond {X : Option (List Int32)} {D : Nat} {Q : Option Value → mm_H → Prop} (Z : dz_Z) (H : dz_p (jf_C_loudestSecond Z) (fun q => Q (some (dz_I q)) (hz_0 Z))) : mm_Wp X D mm_r7 0 [some (.ref 54), none, none, none] [] (hz_0 Z) Q := by
  unfold jf_C_loudestSecond at H
  refine wp_s (i := .iconst 0) (n := 1) (pc' := 1) (st' := [dz_I 0]) rfl rfl ?_
  refine wq_st (k := 1) (i := .istore_n 1) (n := 1) (ls' := [some (.ref 54), some (dz_I 0), none, none]) (pc' := 2) rfl rfl rfl rfl rfl ?_
  refine wp_s (i := .bipush (-4)) (n := 2) (pc' := 4) (st' := [dz_I (-4)]) rfl rfl ?_
  refine wq_st (k := 2) (i := .istore_n 2) (n := 1) (ls' := [some (.ref 54), some (dz_I 0), some (dz_I (-4)), none]) (pc' := 5) rfl rfl rfl rfl rfl ?_
  refine wp_s (i := .iconst 0) (n := 1) (pc' := 6) (st' := [dz_I 0]) rfl rfl ?_
  refine wq_st (k := 3) (i := .istore_n 3) (n := 1) (ls' := [some (.ref 54), some (dz_I 0), some (dz_I (-4)), some (dz_I 0)]) (pc' := 7) rfl rfl rfl rfl rfl ?_
  refine dz_lpi (P := fun (s1 : Int × Int × Int) => mm_Wp X D mm_r7 7 [some (.ref 54), some (dz_I s1.1), some (dz_I s1.2.1), some (dz_I s1.2.2)] [] (hz_0 Z) Q) (fun s1 H => ?_) 5000 (0, (-4), 0) H
  refine wp_s (i := .iload_n 3) (n := 1) (pc' := 8) (st' := [dz_I s1.2.2]) rfl rfl ?_
  refine wp_s (i := .aload_n 0) (n := 1) (pc' := 9) (st' := [.ref 54, dz_I s1.2.2]) rfl rfl ?_
  refine wq_gi (idx := 33) (pc' := 12) rfl rfl ho_C rfl rfl ?_
  refine wq_ic (p := dz_c (Z 54 3 0) ≤ dz_c s1.2.2) (tt := 40) (pc' := 15) rfl rfl (cq_ge rfl rfl) rfl (fun c2 => ?_) (fun c2 => ?_)
  · replace H := dz_it c2 H
    refine wp_s (i := .iload_n 2) (n := 1) (pc' := 41) (st' := [dz_I s1.2.1]) rfl rfl ?_
    refine wq_ri rfl rfl ?_
    replace H := dz_out H
    replace H := dz_sm H
    exact H
  · replace H := dz_if c2 H
    refine wp_s (i := .aload_n 0) (n := 1) (pc' := 16) (st' := [.ref 54]) rfl rfl ?_
    refine wq_gr (idx := 22) (a := 64) (pc' := 19) rfl rfl ho_C rfl rfl ?_
    refine wp_s (i := .iload_n 3) (n := 1) (pc' := 20) (st' := [dz_I s1.2.2, .ref 64]) rfl rfl ?_
    obtain ⟨k3, H⟩ := dz_ck H
    refine wq_ia (j' := dz_c s1.2.2) (pc' := 21) rfl ha_C_2 rfl k3.1 k3.2 rfl ?_
    refine wp_s (i := .iload_n 1) (n := 1) (pc' := 22) (st' := [dz_I s1.1, dz_I (Z 54 2 (dz_c s1.2.2))]) rfl rfl ?_
    refine wq_ic (p := dz_c (Z 54 2 (dz_c s1.2.2)) ≤ dz_c s1.1) (tt := 34) (pc' := 25) rfl rfl (cq_le rfl rfl) rfl (fun c4 => ?_) (fun c4 => ?_)
    · replace H := dz_it c4 H
      refine wq_inc (k := 3) (d := 1) (x := s1.2.2) (ls' := [some (.ref 54), some (dz_I s1.1), some (dz_I s1.2.1), some (dz_I (s1.2.2 + 1))]) (pc' := 37) rfl rfl rfl rfl ?_
      refine wp_s (i := .goto (-30)) (n := 3) (pc' := 7) (st' := []) rfl rfl ?_
      replace H := dz_back H
      exact H
    · replace H := dz_if c4 H
      refine wp_s (i := .aload_n 0) (n := 1) (pc' := 26) (st' := [.ref 54]) rfl rfl ?_
      refine wq_gr (idx := 22) (a := 64) (pc' := 29) rfl rfl ho_C rfl rfl ?_
      refine wp_s (i := .iload_n 3) (n := 1) (pc' := 30) (st' := [dz_I s1.2.2, .ref 64]) rfl rfl ?_
      refine wq_ia (j' := dz_c s1.2.2) (pc' := 31) rfl ha_C_2 rfl k3.1 k3.2 rfl ?_
      refine wq_st (k := 1) (i := .istore_n 1) (n := 1) (ls' := [some (.ref 54), some (dz_I (Z 54 2 (dz_c s1.2.2))), some (dz_I s1.2.1), some (dz_I s1.2.2)]) (pc' := 32) rfl rfl rfl rfl rfl ?_
      refine wp_s (i := .iload_n 3) (n := 1) (pc' := 33) (st' := [dz_I s1.2.2]) rfl rfl ?_
      refine wq_st (k := 2) (i := .istore_n 2) (n := 1) (ls' := [some (.ref 54), some (dz_I (Z 54 2 (dz_c s1.2.2))), some (dz_I s1.2.2), some (dz_I s1.2.2)]) (pc' := 34) rfl rfl rfl rfl rfl ?_
      refine wq_inc (k := 3) (d := 1) (x := s1.2.2) (ls' := [some (.ref 54), some (dz_I (Z 54 2 (dz_c s1.2.2))), some (dz_I s1.2.2), some (dz_I (s1.2.2 + 1))]) (pc' := 37) rfl rfl rfl rfl ?_
      refine wp_s (i := .goto (-30)) (n := 3) (pc' := 7) (st' := []) rfl rfl ?_
      replace H := dz_back H
      exact H
-- 8
def jf_C_wokenSleepers (a1 : Nat) (Z : dz_Z) : Option (Int) := dz_lp (fun (s1 : Int × Int) => if dz_c (Z a1 11 0) ≤ dz_c s1.2 then (some (Sum.inr s1.1)) else (if 0 ≤ dz_c s1.2 ∧ dz_c s1.2 < 4 then dz_lp (fun (s5 : Int × Int) => if dz_c (Z a1 13 (dz_c s1.2)) < dz_c s5.2 then (some (Sum.inr (Sum.inl (s5.1, s1.2 + 1)))) else (if dz_c (Z 54 3 0) ≤ dz_c s5.2 then (some (Sum.inr (Sum.inl (s5.1, s1.2 + 1)))) else (if 0 ≤ dz_c s5.2 ∧ dz_c s5.2 < 12 then Option.bind (α := Int) (if dz_c (Z 54 2 (dz_c s5.2)) < dz_c (Z a1 14 (dz_c s1.2)) then (some 0) else (some (dz_sl 1 s1.2))) (fun (q10 : Int) => some (Sum.inl (dz_or s5.1 q10, s5.2 + 1))) else none))) 5000 (s1.1, Z a1 12 (dz_c s1.2)) else none)) 5000 (0, 0)
set_option maxRecDepth 20000 in
theorem jw_C_wokenSleepers {X : Option (List Int32)} {D : Nat} {Q : Option Value → mm_H → Prop} (a1 : Nat) (ha1 : hz_isP a1) (Z : dz_Z) (H : dz_p (jf_C_wokenSleepers a1 Z) (fun q => Q (some (dz_I q)) (hz_0 Z))) : mm_Wp X D mm_r8 0 [some (.ref 54), some (.ref a1), none, none, none] [] (hz_0 Z) Q := by
  unfold jf_C_wokenSleepers at H
  refine wp_s (i := .iconst 0) (n := 1) (pc' := 1) (st' := [dz_I 0]) rfl rfl ?_
  refine wq_st (k := 2) (i := .istore_n 2) (n := 1) (ls' := [some (.ref 54), some (.ref a1), some (dz_I 0), none, none]) (pc' := 2) rfl rfl rfl rfl rfl ?_
  refine wp_s (i := .iconst 0) (n := 1) (pc' := 3) (st' := [dz_I 0]) rfl rfl ?_
  refine wq_st (k := 3) (i := .istore_n 3) (n := 1) (ls' := [some (.ref 54), some (.ref a1), some (dz_I 0), some (dz_I 0), none]) (pc' := 4) rfl rfl rfl rfl rfl ?_
  refine dz_lpi (P := fun (s1 : Int × Int) => ∀ (u2 : Option Int32), mm_Wp X D mm_r8 4 [some (.ref 54), some (.ref a1), some (dz_I s1.1), some (dz_I s1.2), Option.map Value.int u2] [] (hz_0 Z) Q) (fun s1 H => ?_) 5000 (0, 0) H none
  intro u2
  refine wp_s (i := .iload_n 3) (n := 1) (pc' := 5) (st' := [dz_I s1.2]) rfl rfl ?_
  refine wp_s (i := .aload_n 1) (n := 1) (pc' := 6) (st' := [.ref a1, dz_I s1.2]) rfl rfl ?_
  refine wq_gi (idx := 60) (pc' := 9) rfl rfl (ho_P ha1) rfl rfl ?_
  refine wq_ic (p := dz_c (Z a1 11 0) ≤ dz_c s1.2) (tt := 78) (pc' := 12) rfl rfl (cq_ge rfl rfl) rfl (fun c3 => ?_) (fun c3 => ?_)
  · replace H := dz_it c3 H
    refine wp_s (i := .iload_n 2) (n := 1) (pc' := 79) (st' := [dz_I s1.1]) rfl rfl ?_
    refine wq_ri rfl rfl ?_
    replace H := dz_out H
    replace H := dz_sm H
    exact H
  · replace H := dz_if c3 H
    refine wp_s (i := .aload_n 1) (n := 1) (pc' := 13) (st' := [.ref a1]) rfl rfl ?_
    refine wq_gr (idx := 65) (a := a1 + 8) (pc' := 16) rfl rfl (ho_P ha1) rfl rfl ?_
    refine wp_s (i := .iload_n 3) (n := 1) (pc' := 17) (st' := [dz_I s1.2, .ref (a1 + 8)]) rfl rfl ?_
    obtain ⟨k4, H⟩ := dz_ck H
    refine wq_ia (j' := dz_c s1.2) (pc' := 18) rfl (ha_P_12 ha1) rfl k4.1 k4.2 rfl ?_
    refine wq_st (k := 4) (i := .istore 4) (n := 2) (ls' := [some (.ref 54), some (.ref a1), some (dz_I s1.1), some (dz_I s1.2), some (dz_I (Z a1 12 (dz_c s1.2)))]) (pc' := 20) rfl rfl rfl rfl rfl ?_
    refine dz_lpi (P := fun (s5 : Int × Int) => mm_Wp X D mm_r8 20 [some (.ref 54), some (.ref a1), some (dz_I s5.1), some (dz_I s1.2), some (dz_I s5.2)] [] (hz_0 Z) Q) (fun s5 H => ?_) 5000 (s1.1, Z a1 12 (dz_c s1.2)) H
    refine wp_s (i := .iload 4) (n := 2) (pc' := 22) (st' := [dz_I s5.2]) rfl rfl ?_
    refine wp_s (i := .aload_n 1) (n := 1) (pc' := 23) (st' := [.ref a1, dz_I s5.2]) rfl rfl ?_
    refine wq_gr (idx := 68) (a := a1 + 9) (pc' := 26) rfl rfl (ho_P ha1) rfl rfl ?_
    refine wp_s (i := .iload_n 3) (n := 1) (pc' := 27) (st' := [dz_I s1.2, .ref (a1 + 9), dz_I s5.2]) rfl rfl ?_
    refine wq_ia (j' := dz_c s1.2) (pc' := 28) rfl (ha_P_13 ha1) rfl k4.1 k4.2 rfl ?_
    refine wq_ic (p := dz_c (Z a1 13 (dz_c s1.2)) < dz_c s5.2) (tt := 72) (pc' := 31) rfl rfl (cq_gt rfl rfl) rfl (fun c6 => ?_) (fun c6 => ?_)
    · replace H := dz_it c6 H
      refine wq_inc (k := 3) (d := 1) (x := s1.2) (ls' := [some (.ref 54), some (.ref a1), some (dz_I s5.1), some (dz_I (s1.2 + 1)), some (dz_I s5.2)]) (pc' := 75) rfl rfl rfl rfl ?_
      refine wp_s (i := .goto (-71)) (n := 3) (pc' := 4) (st' := []) rfl rfl ?_
      replace H := dz_out H
      replace H := dz_back H
      exact H (some (Int32.ofInt s5.2))
    · replace H := dz_if c6 H
      refine wp_s (i := .iload 4) (n := 2) (pc' := 33) (st' := [dz_I s5.2]) rfl rfl ?_
      refine wp_s (i := .aload_n 0) (n := 1) (pc' := 34) (st' := [.ref 54, dz_I s5.2]) rfl rfl ?_
      refine wq_gi (idx := 33) (pc' := 37) rfl rfl ho_C rfl rfl ?_
      refine wq_ic (p := dz_c (Z 54 3 0) ≤ dz_c s5.2) (tt := 72) (pc' := 40) rfl rfl (cq_ge rfl rfl) rfl (fun c7 => ?_) (fun c7 => ?_)
      · replace H := dz_it c7 H
        refine wq_inc (k := 3) (d := 1) (x := s1.2) (ls' := [some (.ref 54), some (.ref a1), some (dz_I s5.1), some (dz_I (s1.2 + 1)), some (dz_I s5.2)]) (pc' := 75) rfl rfl rfl rfl ?_
        refine wp_s (i := .goto (-71)) (n := 3) (pc' := 4) (st' := []) rfl rfl ?_
        replace H := dz_out H
        replace H := dz_back H
        exact H (some (Int32.ofInt s5.2))
      · replace H := dz_if c7 H
        refine wp_s (i := .iload_n 2) (n := 1) (pc' := 41) (st' := [dz_I s5.1]) rfl rfl ?_
        refine wp_s (i := .aload_n 0) (n := 1) (pc' := 42) (st' := [.ref 54, dz_I s5.1]) rfl rfl ?_
        refine wq_gr (idx := 22) (a := 64) (pc' := 45) rfl rfl ho_C rfl rfl ?_
        refine wp_s (i := .iload 4) (n := 2) (pc' := 47) (st' := [dz_I s5.2, .ref 64, dz_I s5.1]) rfl rfl ?_
        obtain ⟨k8, H⟩ := dz_ck H
        refine wq_ia (j' := dz_c s5.2) (pc' := 48) rfl ha_C_2 rfl k8.1 k8.2 rfl ?_
        refine wp_s (i := .aload_n 1) (n := 1) (pc' := 49) (st' := [.ref a1, dz_I (Z 54 2 (dz_c s5.2)), dz_I s5.1]) rfl rfl ?_
        refine wq_gr (idx := 71) (a := a1 + 10) (pc' := 52) rfl rfl (ho_P ha1) rfl rfl ?_
        refine wp_s (i := .iload_n 3) (n := 1) (pc' := 53) (st' := [dz_I s1.2, .ref (a1 + 10), dz_I (Z 54 2 (dz_c s5.2)), dz_I s5.1]) rfl rfl ?_
        refine wq_ia (j' := dz_c s1.2) (pc' := 54) rfl (ha_P_14 ha1) rfl k4.1 k4.2 rfl ?_
        refine dz_jn (P := fun (q10 : Int) => mm_Wp X D mm_r8 64 [some (.ref 54), some (.ref a1), some (dz_I s5.1), some (dz_I s1.2), some (dz_I s5.2)] [dz_I q10, dz_I s5.1] (hz_0 Z) Q) (dz_bi H) (fun q10 H => ?_) (fun H => ?_)
        · skip
          refine wq_2 (i := .ior) (z := dz_or s5.1 q10) (pc' := 65) rfl rfl (op_or _ _) rfl ?_
          refine wq_st (k := 2) (i := .istore_n 2) (n := 1) (ls' := [some (.ref 54), some (.ref a1), some (dz_I (dz_or s5.1 q10)), some (dz_I s1.2), some (dz_I s5.2)]) (pc' := 66) rfl rfl rfl rfl rfl ?_
          refine wq_inc (k := 4) (d := 1) (x := s5.2) (ls' := [some (.ref 54), some (.ref a1), some (dz_I (dz_or s5.1 q10)), some (dz_I s1.2), some (dz_I (s5.2 + 1))]) (pc' := 69) rfl rfl rfl rfl ?_
          refine wp_s (i := .goto (-49)) (n := 3) (pc' := 20) (st' := []) rfl rfl ?_
          replace H := dz_back H
          exact H
        · skip
          refine wq_ic (p := dz_c (Z 54 2 (dz_c s5.2)) < dz_c (Z a1 14 (dz_c s1.2))) (tt := 63) (pc' := 57) rfl rfl (cq_lt rfl rfl) rfl (fun c11 => ?_) (fun c11 => ?_)
          · replace H := dz_it c11 H
            refine wp_s (i := .iconst 0) (n := 1) (pc' := 64) (st' := [dz_I 0, dz_I s5.1]) rfl rfl ?_
            replace H := dz_sm H
            exact H
          · replace H := dz_if c11 H
            refine wp_s (i := .iconst 1) (n := 1) (pc' := 58) (st' := [dz_I 1, dz_I s5.1]) rfl rfl ?_
            refine wp_s (i := .iload_n 3) (n := 1) (pc' := 59) (st' := [dz_I s1.2, dz_I 1, dz_I s5.1]) rfl rfl ?_
            refine wq_2 (i := .ishl) (z := dz_sl 1 s1.2) (pc' := 60) rfl rfl (op_shl _ _) rfl ?_
            refine wp_s (i := .goto 4) (n := 3) (pc' := 64) (st' := [dz_I (dz_sl 1 s1.2), dz_I s5.1]) rfl rfl ?_
            replace H := dz_sm H
            exact H
-- 11
def jf_F_copyFrom (c0 : Nat) (a1 : Nat) (Z : dz_Z) : Option (dz_Z) := dz_a (dz_f Z c0 0 (Z a1 0)) fun Z1 => dz_a (dz_f Z1 c0 1 (Z1 a1 1)) fun Z2 => dz_a (dz_f Z2 c0 2 (Z2 a1 2)) fun Z3 => dz_a (dz_f Z3 c0 3 (Z3 a1 3)) fun Z4 => dz_a (dz_f Z4 c0 4 (Z4 a1 4)) fun Z5 => dz_a (dz_u Z5 c0 5 0 (Z5 a1 5 0)) fun Z6 => dz_a (dz_u Z6 c0 6 0 (Z6 a1 6 0)) fun Z7 => dz_a (dz_u Z7 c0 7 0 (Z7 a1 7 0)) fun Z8 => dz_a (dz_u Z8 c0 8 0 (Z8 a1 8 0)) fun Z9 => dz_a (dz_u Z9 c0 9 0 (Z9 a1 9 0)) fun Z10 => some Z10
set_option maxRecDepth 20000 in
theorem jw_F_copyFrom {X : Option (List Int32)} {D : Nat} {Q : Option Value → mm_H → Prop} (c0 : Nat) (hc0 : hz_isF c0) (a1 : Nat) (ha1 : hz_isF a1) (Z : dz_Z) (H : dz_p (jf_F_copyFrom c0 a1 Z) (fun q => Q (none) (hz_0 q))) : mm_Wp X (D + 1) mm_r11 0 [some (.ref c0), some (.ref a1)] [] (hz_0 Z) Q := by
  unfold jf_F_copyFrom at H
  refine wp_s (i := .aload_n 1) (n := 1) (pc' := 1) (st' := [.ref a1]) rfl rfl ?_
  refine wq_gr (idx := 9) (a := a1 + 1) (pc' := 4) rfl rfl (ho_F ha1) rfl rfl ?_
  refine wp_s (i := .iconst 0) (n := 1) (pc' := 5) (st' := [dz_I 0, .ref (a1 + 1)]) rfl rfl ?_
  refine wp_s (i := .aload_n 0) (n := 1) (pc' := 6) (st' := [.ref c0, dz_I 0, .ref (a1 + 1)]) rfl rfl ?_
  refine wq_gr (idx := 9) (a := c0 + 1) (pc' := 9) rfl rfl (ho_F hc0) rfl rfl ?_
  refine wp_s (i := .iconst 0) (n := 1) (pc' := 10) (st' := [dz_I 0, .ref (c0 + 1), dz_I 0, .ref (a1 + 1)]) rfl rfl ?_
  refine wp_s (i := .bipush 8) (n := 2) (pc' := 12) (st' := [dz_I 8, dz_I 0, .ref (c0 + 1), dz_I 0, .ref (a1 + 1)]) rfl rfl ?_
  refine wq_cp (Dp := D) (n := 8) (tag := 0) (pc' := 15) rfl rfl (by decide) (ha_F_0 ha1) (ha_F_0 hc0) dk_8 rfl rfl (fun Z1 eZ1 => ?_)
  replace H := dz_le H Z1 eZ1
  clear eZ1
  refine wp_s (i := .aload_n 1) (n := 1) (pc' := 16) (st' := [.ref a1]) rfl rfl ?_
  refine wq_gr (idx := 15) (a := a1 + 2) (pc' := 19) rfl rfl (ho_F ha1) rfl rfl ?_
  refine wp_s (i := .iconst 0) (n := 1) (pc' := 20) (st' := [dz_I 0, .ref (a1 + 2)]) rfl rfl ?_
  refine wp_s (i := .aload_n 0) (n := 1) (pc' := 21) (st' := [.ref c0, dz_I 0, .ref (a1 + 2)]) rfl rfl ?_
  refine wq_gr (idx := 15) (a := c0 + 2) (pc' := 24) rfl rfl (ho_F hc0) rfl rfl ?_
  refine wp_s (i := .iconst 0) (n := 1) (pc' := 25) (st' := [dz_I 0, .ref (c0 + 2), dz_I 0, .ref (a1 + 2)]) rfl rfl ?_
  refine wp_s (i := .bipush 8) (n := 2) (pc' := 27) (st' := [dz_I 8, dz_I 0, .ref (c0 + 2), dz_I 0, .ref (a1 + 2)]) rfl rfl ?_
  refine wq_cp (Dp := D) (n := 8) (tag := 0) (pc' := 30) rfl rfl (by decide) (ha_F_1 ha1) (ha_F_1 hc0) dk_8 rfl rfl (fun Z2 eZ2 => ?_)
  replace H := dz_le H Z2 eZ2
  clear eZ2
  refine wp_s (i := .aload_n 1) (n := 1) (pc' := 31) (st' := [.ref a1]) rfl rfl ?_
  refine wq_gr (idx := 18) (a := a1 + 3) (pc' := 34) rfl rfl (ho_F ha1) rfl rfl ?_
  refine wp_s (i := .iconst 0) (n := 1) (pc' := 35) (st' := [dz_I 0, .ref (a1 + 3)]) rfl rfl ?_
  refine wp_s (i := .aload_n 0) (n := 1) (pc' := 36) (st' := [.ref c0, dz_I 0, .ref (a1 + 3)]) rfl rfl ?_
  refine wq_gr (idx := 18) (a := c0 + 3) (pc' := 39) rfl rfl (ho_F hc0) rfl rfl ?_
  refine wp_s (i := .iconst 0) (n := 1) (pc' := 40) (st' := [dz_I 0, .ref (c0 + 3), dz_I 0, .ref (a1 + 3)]) rfl rfl ?_
  refine wp_s (i := .bipush 8) (n := 2) (pc' := 42) (st' := [dz_I 8, dz_I 0, .ref (c0 + 3), dz_I 0, .ref (a1 + 3)]) rfl rfl ?_
  refine wq_cp (Dp := D) (n := 8) (tag := 1) (pc' := 45) rfl rfl (by decide) (ha_F_2 ha1) (ha_F_2 hc0) dk_8 rfl rfl (fun Z3 eZ3 => ?_)
  replace H := dz_le H Z3 eZ3
  clear eZ3
  refine wp_s (i := .aload_n 1) (n := 1) (pc' := 46) (st' := [.ref a1]) rfl rfl ?_
  refine wq_gr (idx := 22) (a := a1 + 4) (pc' := 49) rfl rfl (ho_F ha1) rfl rfl ?_
  refine wp_s (i := .iconst 0) (n := 1) (pc' := 50) (st' := [dz_I 0, .ref (a1 + 4)]) rfl rfl ?_
  refine wp_s (i := .aload_n 0) (n := 1) (pc' := 51) (st' := [.ref c0, dz_I 0, .ref (a1 + 4)]) rfl rfl ?_
  refine wq_gr (idx := 22) (a := c0 + 4) (pc' := 54) rfl rfl (ho_F hc0) rfl rfl ?_
  refine wp_s (i := .iconst 0) (n := 1) (pc' := 55) (st' := [dz_I 0, .ref (c0 + 4), dz_I 0, .ref (a1 + 4)]) rfl rfl ?_
  refine wp_s (i := .bipush 8) (n := 2) (pc' := 57) (st' := [dz_I 8, dz_I 0, .ref (c0 + 4), dz_I 0, .ref (a1 + 4)]) rfl rfl ?_
  refine wq_cp (Dp := D) (n := 8) (tag := 0) (pc' := 60) rfl rfl (by decide) (ha_F_3 ha1) (ha_F_3 hc0) dk_8 rfl rfl (fun Z4 eZ4 => ?_)
  replace H := dz_le H Z4 eZ4
  clear eZ4
  refine wp_s (i := .aload_n 1) (n := 1) (pc' := 61) (st' := [.ref a1]) rfl rfl ?_
  refine wq_gr (idx := 25) (a := a1 + 5) (pc' := 64) rfl rfl (ho_F ha1) rfl rfl ?_
  refine wp_s (i := .iconst 0) (n := 1) (pc' := 65) (st' := [dz_I 0, .ref (a1 + 5)]) rfl rfl ?_
  refine wp_s (i := .aload_n 0) (n := 1) (pc' := 66) (st' := [.ref c0, dz_I 0, .ref (a1 + 5)]) rfl rfl ?_
  refine wq_gr (idx := 25) (a := c0 + 5) (pc' := 69) rfl rfl (ho_F hc0) rfl rfl ?_
  refine wp_s (i := .iconst 0) (n := 1) (pc' := 70) (st' := [dz_I 0, .ref (c0 + 5), dz_I 0, .ref (a1 + 5)]) rfl rfl ?_
  refine wp_s (i := .bipush 8) (n := 2) (pc' := 72) (st' := [dz_I 8, dz_I 0, .ref (c0 + 5), dz_I 0, .ref (a1 + 5)]) rfl rfl ?_
  refine wq_cp (Dp := D) (n := 8) (tag := 0) (pc' := 75) rfl rfl (by decide) (ha_F_4 ha1) (ha_F_4 hc0) dk_8 rfl rfl (fun Z5 eZ5 => ?_)
  replace H := dz_le H Z5 eZ5
  clear eZ5
  refine wp_s (i := .aload_n 0) (n := 1) (pc' := 76) (st' := [.ref c0]) rfl rfl ?_
  refine wp_s (i := .aload_n 1) (n := 1) (pc' := 77) (st' := [.ref a1, .ref c0]) rfl rfl ?_
  refine wq_gi (idx := 43) (pc' := 80) rfl rfl (ho_F ha1) rfl rfl ?_
  refine wq_pi (idx := 43) (x := Z5 a1 5 0) (pc' := 83) rfl rfl rfl (ho_F hc0) rfl rfl rfl rfl (fun Z6 eZ6 => ?_)
  replace H := dz_le H Z6 eZ6
  clear eZ6
  refine wp_s (i := .aload_n 0) (n := 1) (pc' := 84) (st' := [.ref c0]) rfl rfl ?_
  refine wp_s (i := .aload_n 1) (n := 1) (pc' := 85) (st' := [.ref a1, .ref c0]) rfl rfl ?_
  refine wq_gi (idx := 47) (pc' := 88) rfl rfl (ho_F ha1) rfl rfl ?_
  refine wq_pi (idx := 47) (x := Z6 a1 6 0) (pc' := 91) rfl rfl rfl (ho_F hc0) rfl rfl rfl rfl (fun Z7 eZ7 => ?_)
  replace H := dz_le H Z7 eZ7
  clear eZ7
  refine wp_s (i := .aload_n 0) (n := 1) (pc' := 92) (st' := [.ref c0]) rfl rfl ?_
  refine wp_s (i := .aload_n 1) (n := 1) (pc' := 93) (st' := [.ref a1, .ref c0]) rfl rfl ?_
  refine wq_gi (idx := 50) (pc' := 96) rfl rfl (ho_F ha1) rfl rfl ?_
  refine wq_pi (idx := 50) (x := Z7 a1 7 0) (pc' := 99) rfl rfl rfl (ho_F hc0) rfl rfl rfl rfl (fun Z8 eZ8 => ?_)
  replace H := dz_le H Z8 eZ8
  clear eZ8
  refine wp_s (i := .aload_n 0) (n := 1) (pc' := 100) (st' := [.ref c0]) rfl rfl ?_
  refine wp_s (i := .aload_n 1) (n := 1) (pc' := 101) (st' := [.ref a1, .ref c0]) rfl rfl ?_
  refine wq_gi (idx := 53) (pc' := 104) rfl rfl (ho_F ha1) rfl rfl ?_
  refine wq_pi (idx := 53) (x := Z8 a1 8 0) (pc' := 107) rfl rfl rfl (ho_F hc0) rfl rfl rfl rfl (fun Z9 eZ9 => ?_)
  replace H := dz_le H Z9 eZ9
  clear eZ9
  refine wp_s (i := .aload_n 0) (n := 1) (pc' := 108) (st' := [.ref c0]) rfl rfl ?_
  refine wp_s (i := .aload_n 1) (n := 1) (pc' := 109) (st' := [.ref a1, .ref c0]) rfl rfl ?_
  refine wq_gi (idx := 56) (pc' := 112) rfl rfl (ho_F ha1) rfl rfl ?_
  refine wq_pi (idx := 56) (x := Z9 a1 9 0) (pc' := 115) rfl rfl rfl (ho_F hc0) rfl rfl rfl rfl (fun Z10 eZ10 => ?_)
  replace H := dz_le H Z10 eZ10
  clear eZ10
  refine wq_rv rfl rfl ?_
  replace H := dz_sm H
  exact H
-- 22
def jf_F_emptyCup (c0 : Nat) (a1 : Int) (Z : dz_Z) : Option (dz_Z) := if 0 ≤ dz_c a1 ∧ dz_c a1 < 8 then dz_a (dz_u Z c0 7 0 ((Z c0 7 0) + (Z c0 0 (dz_c a1)))) fun Z2 => dz_a (dz_u Z2 c0 0 (dz_c a1) 0) fun Z3 => dz_a (dz_u Z3 c0 1 (dz_c a1) 0) fun Z4 => some Z4 else none
set_option maxRecDepth 20000 in
theorem jw_F_emptyCup {X : Option (List Int32)} {D : Nat} {Q : Option Value → mm_H → Prop} (c0 : Nat) (hc0 : hz_isF c0) (a1 : Int) (Z : dz_Z) (H : dz_p (jf_F_emptyCup c0 a1 Z) (fun q => Q (none) (hz_0 q))) : mm_Wp X D mm_r22 0 [some (.ref c0), some (dz_I a1)] [] (hz_0 Z) Q := by
  unfold jf_F_emptyCup at H
  refine wp_s (i := .aload_n 0) (n := 1) (pc' := 1) (st' := [.ref c0]) rfl rfl ?_
  refine wp_s (i := .dup) (n := 1) (pc' := 2) (st' := [.ref c0, .ref c0]) rfl rfl ?_
  refine wq_gi (idx := 50) (pc' := 5) rfl rfl (ho_F hc0) rfl rfl ?_
  refine wp_s (i := .aload_n 0) (n := 1) (pc' := 6) (st' := [.ref c0, dz_I (Z c0 7 0), .ref c0]) rfl rfl ?_
  refine wq_gr (idx := 9) (a := c0 + 1) (pc' := 9) rfl rfl (ho_F hc0) rfl rfl ?_
  refine wp_s (i := .iload_n 1) (n := 1) (pc' := 10) (st' := [dz_I a1, .ref (c0 + 1), dz_I (Z c0 7 0), .ref c0]) rfl rfl ?_
  obtain ⟨k1, H⟩ := dz_ck H
  refine wq_ia (j' := dz_c a1) (pc' := 11) rfl (ha_F_0 hc0) rfl k1.1 k1.2 rfl ?_
  refine wq_2 (i := .iadd) (z := (Z c0 7 0) + (Z c0 0 (dz_c a1))) (pc' := 12) rfl rfl (op_add _ _) rfl ?_
  refine wq_pi (idx := 50) (x := (Z c0 7 0) + (Z c0 0 (dz_c a1))) (pc' := 15) rfl rfl rfl (ho_F hc0) rfl rfl rfl rfl (fun Z2 eZ2 => ?_)
  replace H := dz_le H Z2 eZ2
  clear eZ2
  refine wp_s (i := .aload_n 0) (n := 1) (pc' := 16) (st' := [.ref c0]) rfl rfl ?_
  refine wq_gr (idx := 9) (a := c0 + 1) (pc' := 19) rfl rfl (ho_F hc0) rfl rfl ?_
  refine wp_s (i := .iload_n 1) (n := 1) (pc' := 20) (st' := [dz_I a1, .ref (c0 + 1)]) rfl rfl ?_
  refine wp_s (i := .iconst 0) (n := 1) (pc' := 21) (st' := [dz_I 0, dz_I a1, .ref (c0 + 1)]) rfl rfl ?_
  refine wq_is (j' := dz_c a1) (x := 0) (pc' := 22) rfl (ha_F_0 hc0) rfl k1.1 k1.2 rfl (fun Z3 eZ3 => ?_)
  replace H := dz_le H Z3 eZ3
  clear eZ3
  refine wp_s (i := .aload_n 0) (n := 1) (pc' := 23) (st' := [.ref c0]) rfl rfl ?_
  refine wq_gr (idx := 15) (a := c0 + 2) (pc' := 26) rfl rfl (ho_F hc0) rfl rfl ?_
  refine wp_s (i := .iload_n 1) (n := 1) (pc' := 27) (st' := [dz_I a1, .ref (c0 + 2)]) rfl rfl ?_
  refine wp_s (i := .iconst 0) (n := 1) (pc' := 28) (st' := [dz_I 0, dz_I a1, .ref (c0 + 2)]) rfl rfl ?_
  refine wq_is (j' := dz_c a1) (x := 0) (pc' := 29) rfl (ha_F_1 hc0) rfl k1.1 k1.2 rfl (fun Z4 eZ4 => ?_)
  replace H := dz_le H Z4 eZ4
  clear eZ4
  refine wq_rv rfl rfl ?_
  replace H := dz_sm H
  exact H
-- 24
def jf_F_brokenSpouts (c0 : Nat) (a1 : Nat) (Z : dz_Z) : Option (Int) := dz_lp (fun (s1 : Int × Int) => if dz_c (Z a1 6 0) ≤ dz_c s1.2 then (some (Sum.inr s1.1)) else (Option.bind (jf_F_isBroken c0 a1 s1.2 Z) fun q3 => Option.bind (α := Int) (if q3 = false then (some 0) else (some (dz_sl 1 s1.2))) (fun (q5 : Int) => some (Sum.inl (dz_or s1.1 q5, s1.2 + 1))))) 5000 (0, 0)
set_option maxRecDepth 20000 in
theorem jw_F_brokenSpouts {X : Option (List Int32)} {D : Nat} {Q : Option Value → mm_H → Prop} (c0 : Nat) (hc0 : hz_isF c0) (a1 : Nat) (ha1 : hz_isP a1) (Z : dz_Z) (H : dz_p (jf_F_brokenSpouts c0 a1 Z) (fun q => Q (some (dz_I q)) (hz_0 Z))) : mm_Wp X (D + 1) mm_r24 0 [some (.ref c0), some (.ref a1), none, none] [] (hz_0 Z) Q := by
  unfold jf_F_brokenSpouts at H
  refine wp_s (i := .iconst 0) (n := 1) (pc' := 1) (st' := [dz_I 0]) rfl rfl ?_
  refine wq_st (k := 2) (i := .istore_n 2) (n := 1) (ls' := [some (.ref c0), some (.ref a1), some (dz_I 0), none]) (pc' := 2) rfl rfl rfl rfl rfl ?_
  refine wp_s (i := .iconst 0) (n := 1) (pc' := 3) (st' := [dz_I 0]) rfl rfl ?_
  refine wq_st (k := 3) (i := .istore_n 3) (n := 1) (ls' := [some (.ref c0), some (.ref a1), some (dz_I 0), some (dz_I 0)]) (pc' := 4) rfl rfl rfl rfl rfl ?_
  refine dz_lpi (P := fun (s1 : Int × Int) => mm_Wp X (D + 1) mm_r24 4 [some (.ref c0), some (.ref a1), some (dz_I s1.1), some (dz_I s1.2)] [] (hz_0 Z) Q) (fun s1 H => ?_) 5000 (0, 0) H
  refine wp_s (i := .iload_n 3) (n := 1) (pc' := 5) (st' := [dz_I s1.2]) rfl rfl ?_
  refine wp_s (i := .aload_n 1) (n := 1) (pc' := 6) (st' := [.ref a1, dz_I s1.2]) rfl rfl ?_
  refine wq_gi (idx := 113) (pc' := 9) rfl rfl (ho_P ha1) rfl rfl ?_
  refine wq_ic (p := dz_c (Z a1 6 0) ≤ dz_c s1.2) (tt := 37) (pc' := 12) rfl rfl (cq_ge rfl rfl) rfl (fun c2 => ?_) (fun c2 => ?_)
  · replace H := dz_it c2 H
    refine wp_s (i := .iload_n 2) (n := 1) (pc' := 38) (st' := [dz_I s1.1]) rfl rfl ?_
    refine wq_ri rfl rfl ?_
    replace H := dz_out H
    replace H := dz_sm H
    exact H
  · replace H := dz_if c2 H
    refine wp_s (i := .iload_n 2) (n := 1) (pc' := 13) (st' := [dz_I s1.1]) rfl rfl ?_
    refine wp_s (i := .aload_n 0) (n := 1) (pc' := 14) (st' := [.ref c0, dz_I s1.1]) rfl rfl ?_
    refine wp_s (i := .aload_n 1) (n := 1) (pc' := 15) (st' := [.ref a1, .ref c0, dz_I s1.1]) rfl rfl ?_
    refine wp_s (i := .iload_n 3) (n := 1) (pc' := 16) (st' := [dz_I s1.2, .ref a1, .ref c0, dz_I s1.1]) rfl rfl ?_
    refine wq_cv (Dq := D) (r' := mm_r23) (as0 := [.ref a1, dz_I s1.2]) (rest := [dz_I s1.1]) (ls' := [some (.ref c0), some (.ref a1), some (dz_I s1.2)]) (pc' := 19) rfl rfl rfl rfl (ho_F hc0) rfl rfl rfl ?_
    refine jw_F_isBroken (X := X) (D := D + 0) c0 hc0 a1 ha1 s1.2 Z (dz_pm (dz_bi H) (fun q3 H => ?_))
    show mm_Wp X (D + 1) mm_r24 19 [some (.ref c0), some (.ref a1), some (dz_I s1.1), some (dz_I s1.2)] [dz_B q3, dz_I s1.1] (hz_0 Z) Q
    refine dz_jn (P := fun (q5 : Int) => mm_Wp X (D + 1) mm_r24 29 [some (.ref c0), some (.ref a1), some (dz_I s1.1), some (dz_I s1.2)] [dz_I q5, dz_I s1.1] (hz_0 Z) Q) (dz_bi H) (fun q5 H => ?_) (fun H => ?_)
    · skip
      refine wq_2 (i := .ior) (z := dz_or s1.1 q5) (pc' := 30) rfl rfl (op_or _ _) rfl ?_
      refine wq_st (k := 2) (i := .istore_n 2) (n := 1) (ls' := [some (.ref c0), some (.ref a1), some (dz_I (dz_or s1.1 q5)), some (dz_I s1.2)]) (pc' := 31) rfl rfl rfl rfl rfl ?_
      refine wq_inc (k := 3) (d := 1) (x := s1.2) (ls' := [some (.ref c0), some (.ref a1), some (dz_I (dz_or s1.1 q5)), some (dz_I (s1.2 + 1))]) (pc' := 34) rfl rfl rfl rfl ?_
      refine wp_s (i := .goto (-30)) (n := 3) (pc' := 4) (st' := []) rfl rfl ?_
      replace H := dz_back H
      exact H
    · skip
      refine wq_if (p := q3 = false) (tt := 28) (pc' := 22) rfl rfl (cb_eq) rfl (fun c6 => ?_) (fun c6 => ?_)
      · replace H := dz_it c6 H
        refine wp_s (i := .iconst 0) (n := 1) (pc' := 29) (st' := [dz_I 0, dz_I s1.1]) rfl rfl ?_
        replace H := dz_sm H
        exact H
      · replace H := dz_if c6 H
        refine wp_s (i := .iconst 1) (n := 1) (pc' := 23) (st' := [dz_I 1, dz_I s1.1]) rfl rfl ?_
        refine wp_s (i := .iload_n 3) (n := 1) (pc' := 24) (st' := [dz_I s1.2, dz_I 1, dz_I s1.1]) rfl rfl ?_
        refine wq_2 (i := .ishl) (z := dz_sl 1 s1.2) (pc' := 25) rfl rfl (op_shl _ _) rfl ?_
        refine wp_s (i := .goto 4) (n := 3) (pc' := 29) (st' := [dz_I (dz_sl 1 s1.2), dz_I s1.1]) rfl rfl ?_
        replace H := dz_sm H
        exact H
-- 27
def jf_P_forget (c0 : Nat) (Z : dz_Z) : Option (dz_Z) := dz_a (dz_u Z c0 0 0 0) fun Z1 => dz_a (dz_u Z1 c0 3 0 0) fun Z2 => dz_a (dz_u Z2 c0 6 0 0) fun Z3 => dz_a (dz_u Z3 c0 10 0 0) fun Z4 => dz_a (dz_u Z4 c0 11 0 0) fun Z5 => dz_a (dz_u Z5 c0 15 0 0) fun Z6 => some Z6
set_option maxRecDepth 20000 in
theorem jw_P_forget {X : Option (List Int32)} {D : Nat} {Q : Option Value → mm_H → Prop} (c0 : Nat) (hc0 : hz_isP c0) (Z : dz_Z) (H : dz_p (jf_P_forget c0 Z) (fun q => Q (none) (hz_0 q))) : mm_Wp X D mm_r27 0 [some (.ref c0)] [] (hz_0 Z) Q := by
  unfold jf_P_forget at H
  refine wp_s (i := .aload_n 0) (n := 1) (pc' := 1) (st' := [.ref c0]) rfl rfl ?_
  refine wp_s (i := .iconst 0) (n := 1) (pc' := 2) (st' := [dz_I 0, .ref c0]) rfl rfl ?_
  refine wq_pi (idx := 42) (x := 0) (pc' := 5) rfl rfl rfl (ho_P hc0) rfl rfl rfl rfl (fun Z1 eZ1 => ?_)
  replace H := dz_le H Z1 eZ1
  clear eZ1
  refine wp_s (i := .aload_n 0) (n := 1) (pc' := 6) (st' := [.ref c0]) rfl rfl ?_
  refine wp_s (i := .iconst 0) (n := 1) (pc' := 7) (st' := [dz_I 0, .ref c0]) rfl rfl ?_
  refine wq_pi (idx := 46) (x := 0) (pc' := 10) rfl rfl rfl (ho_P hc0) rfl rfl rfl rfl (fun Z2 eZ2 => ?_)
  replace H := dz_le H Z2 eZ2
  clear eZ2
  refine wp_s (i := .aload_n 0) (n := 1) (pc' := 11) (st' := [.ref c0]) rfl rfl ?_
  refine wp_s (i := .iconst 0) (n := 1) (pc' := 12) (st' := [dz_I 0, .ref c0]) rfl rfl ?_
  refine wq_pi (idx := 49) (x := 0) (pc' := 15) rfl rfl rfl (ho_P hc0) rfl rfl rfl rfl (fun Z3 eZ3 => ?_)
  replace H := dz_le H Z3 eZ3
  clear eZ3
  refine wp_s (i := .aload_n 0) (n := 1) (pc' := 16) (st' := [.ref c0]) rfl rfl ?_
  refine wp_s (i := .iconst 0) (n := 1) (pc' := 17) (st' := [dz_I 0, .ref c0]) rfl rfl ?_
  refine wq_pi (idx := 52) (x := 0) (pc' := 20) rfl rfl rfl (ho_P hc0) rfl rfl rfl rfl (fun Z4 eZ4 => ?_)
  replace H := dz_le H Z4 eZ4
  clear eZ4
  refine wp_s (i := .aload_n 0) (n := 1) (pc' := 21) (st' := [.ref c0]) rfl rfl ?_
  refine wp_s (i := .iconst 0) (n := 1) (pc' := 22) (st' := [dz_I 0, .ref c0]) rfl rfl ?_
  refine wq_pi (idx := 55) (x := 0) (pc' := 25) rfl rfl rfl (ho_P hc0) rfl rfl rfl rfl (fun Z5 eZ5 => ?_)
  replace H := dz_le H Z5 eZ5
  clear eZ5
  refine wp_s (i := .aload_n 0) (n := 1) (pc' := 26) (st' := [.ref c0]) rfl rfl ?_
  refine wp_s (i := .iconst 0) (n := 1) (pc' := 27) (st' := [dz_I 0, .ref c0]) rfl rfl ?_
  refine wq_pi (idx := 58) (x := 0) (pc' := 30) rfl rfl rfl (ho_P hc0) rfl rfl rfl rfl (fun Z6 eZ6 => ?_)
  replace H := dz_le H Z6 eZ6
  clear eZ6
  refine wq_rv rfl rfl ?_
  replace H := dz_sm H
  exact H
