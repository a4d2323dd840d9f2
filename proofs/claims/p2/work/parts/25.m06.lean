-- 76
def jf_O_rain (a1 : Int) (Z : dz_Z) : Option (Int × dz_Z) := Option.bind (jf_O_isRain a1) fun q1 => if q1 = true then (if hz_isP (Z 0 2 0).toNat then if hz_isS (Z 0 3 0).toNat then Option.bind (jf_F_passSecond 46 ((Z 0 2 0).toNat) ((Z 0 3 0).toNat) a1 Z) fun q5 => some (q5.1, q5.2) else none else none) else (some ((-1), Z))
set_option maxRecDepth 20000 in
theorem jw_O_rain {X : Option (List Int32)} {D : Nat} {Q : Option Value → mm_H → Prop} (a1 : Int) (Z : dz_Z) (H : dz_p (jf_O_rain a1 Z) (fun q => Q (some (dz_I q.1)) (hz_0 q.2))) : mm_Wp X (D + 4) mm_r76 0 [some (.ref 0), some (dz_I a1)] [] (hz_0 Z) Q := by
  unfold jf_O_rain at H
  refine wp_s (i := .iload_n 1) (n := 1) (pc' := 1) (st' := [dz_I a1]) rfl rfl ?_
  refine wq_cs (Dq := (D + 3)) (r' := mm_r109) (as0 := [dz_I a1]) (rest := []) (ls' := [some (dz_I a1)]) (pc' := 4) rfl rfl (by decide) rfl rfl rfl rfl rfl ?_
  refine jw_O_isRain (X := X) (D := D + 3) a1 Z (dz_pm (dz_bi H) (fun q1 H => ?_))
  show mm_Wp X (D + 4) mm_r76 4 [some (.ref 0), some (dz_I a1)] [dz_B q1] (hz_0 Z) Q
  refine wq_if (p := q1 = true) (tt := 9) (pc' := 7) rfl rfl (cb_ne) rfl (fun c2 => ?_) (fun c2 => ?_)
  · replace H := dz_it c2 H
    refine wp_s (i := .aload_n 0) (n := 1) (pc' := 10) (st' := [.ref 0]) rfl rfl ?_
    refine wq_gr (idx := 38) (a := 46) (pc' := 13) rfl rfl ho_O rfl rfl ?_
    refine wp_s (i := .aload_n 0) (n := 1) (pc' := 14) (st' := [.ref 0, .ref 46]) rfl rfl ?_
    obtain ⟨k3, H⟩ := dz_ck H
    refine wq_gd (idx := 24) (pc' := 17) rfl rfl ho_O rfl rfl ?_
    refine wp_s (i := .aload_n 0) (n := 1) (pc' := 18) (st' := [.ref 0, .ref ((Z 0 2 0).toNat), .ref 46]) rfl rfl ?_
    obtain ⟨k4, H⟩ := dz_ck H
    refine wq_gd (idx := 31) (pc' := 21) rfl rfl ho_O rfl rfl ?_
    refine wp_s (i := .iload_n 1) (n := 1) (pc' := 22) (st' := [dz_I a1, .ref ((Z 0 3 0).toNat), .ref ((Z 0 2 0).toNat), .ref 46]) rfl rfl ?_
    refine wq_cv (Dq := (D + 3)) (r' := mm_r12) (as0 := [.ref ((Z 0 2 0).toNat), .ref ((Z 0 3 0).toNat), dz_I a1]) (rest := []) (ls' := [some (.ref 46), some (.ref ((Z 0 2 0).toNat)), some (.ref ((Z 0 3 0).toNat)), some (dz_I a1), none]) (pc' := 25) rfl rfl rfl rfl (ho_F (Or.inl rfl)) rfl rfl rfl ?_
    refine jw_F_passSecond (X := X) (D := D + 0) 46 (Or.inl rfl) ((Z 0 2 0).toNat) k3 ((Z 0 3 0).toNat) k4 a1 Z (dz_pm (dz_bi H) (fun q5 H => ?_))
    show mm_Wp X (D + 4) mm_r76 25 [some (.ref 0), some (dz_I a1)] [dz_I q5.1] (hz_0 q5.2) Q
    refine wq_ri rfl rfl ?_
    replace H := dz_sm H
    exact H
  · replace H := dz_if c2 H
    refine wp_s (i := .iconst (-1)) (n := 1) (pc' := 8) (st' := [dz_I (-1)]) rfl rfl ?_
    refine wq_ri rfl rfl ?_
    replace H := dz_sm H
    exact H
-- 77
def jf_O_dry (Z : dz_Z) : Option (Int × dz_Z) := Option.bind (jf_F_dryUp 46 Z) fun q1 => some (Z 46 5 0, q1)
set_option maxRecDepth 20000 in
theorem jw_O_dry {X : Option (List Int32)} {D : Nat} {Q : Option Value → mm_H → Prop} (Z : dz_Z) (H : dz_p (jf_O_dry Z) (fun q => Q (some (dz_I q.1)) (hz_0 q.2))) : mm_Wp X (D + 2) mm_r77 0 [some (.ref 0), none] [] (hz_0 Z) Q := by
  unfold jf_O_dry at H
  refine wp_s (i := .aload_n 0) (n := 1) (pc' := 1) (st' := [.ref 0]) rfl rfl ?_
  refine wq_gr (idx := 38) (a := 46) (pc' := 4) rfl rfl ho_O rfl rfl ?_
  refine wq_gi (idx := 201) (pc' := 7) rfl rfl (ho_F (Or.inl rfl)) rfl rfl ?_
  refine wq_st (k := 1) (i := .istore_n 1) (n := 1) (ls' := [some (.ref 0), some (dz_I (Z 46 5 0))]) (pc' := 8) rfl rfl rfl rfl rfl ?_
  refine wp_s (i := .aload_n 0) (n := 1) (pc' := 9) (st' := [.ref 0]) rfl rfl ?_
  refine wq_gr (idx := 38) (a := 46) (pc' := 12) rfl rfl ho_O rfl rfl ?_
  refine wq_cv (Dq := (D + 1)) (r' := mm_r10) (as0 := []) (rest := []) (ls' := [some (.ref 46)]) (pc' := 15) rfl rfl rfl rfl (ho_F (Or.inl rfl)) rfl rfl rfl ?_
  refine jw_F_dryUp (X := X) (D := D + 0) 46 (Or.inl rfl) Z (dz_pm (dz_bi H) (fun q1 H => ?_))
  show mm_Wp X (D + 2) mm_r77 15 [some (.ref 0), some (dz_I (Z 46 5 0))] [] (hz_0 q1) Q
  refine wp_s (i := .iload_n 1) (n := 1) (pc' := 16) (st' := [dz_I (Z 46 5 0)]) rfl rfl ?_
  refine wq_ri rfl rfl ?_
  replace H := dz_sm H
  exact H
-- 111
def jf_O_sum (a1b a1f a1n : Nat) (Z : dz_Z) : Option (Int) := dz_lp (fun (s1 : Int × Int) => if dz_c (a1n : Int) ≤ dz_c s1.2 then (some (Sum.inr s1.1)) else (if 0 ≤ (dz_c s1.2 : Int) ∧ (dz_c s1.2 : Int) < (a1n : Int) then some (Sum.inl (s1.1 + (Z a1b a1f (dz_c s1.2)), s1.2 + 1)) else none)) 5000 (0, 0)
set_option maxRecDepth 20000 in
theorem jw_O_sum {X : Option (List Int32)} {D : Nat} {Q : Option Value → mm_H → Prop} (a1c a1b a1f a1n : Nat) (ha1 : hz_t[a1c]? = some (.inl (0, a1b, a1f, a1n))) (Z : dz_Z) (H : dz_p (jf_O_sum a1b a1f a1n Z) (fun q => Q (some (dz_I q)) (hz_0 Z))) : mm_Wp X D mm_r111 0 [some (.ref a1c), none, none, none, none, none] [] (hz_0 Z) Q := by
  unfold jf_O_sum at H
  refine wp_s (i := .iconst 0) (n := 1) (pc' := 1) (st' := [dz_I 0]) rfl rfl ?_
  refine wq_st (k := 1) (i := .istore_n 1) (n := 1) (ls' := [some (.ref a1c), some (dz_I 0), none, none, none, none]) (pc' := 2) rfl rfl rfl rfl rfl ?_
  refine wp_s (i := .aload_n 0) (n := 1) (pc' := 3) (st' := [.ref a1c]) rfl rfl ?_
  refine wp_s (i := .astore_n 2) (n := 1) (pc' := 4) (ls' := [some (.ref a1c), some (dz_I 0), some (.ref a1c), none, none, none]) (st' := []) rfl rfl ?_
  refine wp_s (i := .aload_n 2) (n := 1) (pc' := 5) (st' := [.ref a1c]) rfl rfl ?_
  refine wq_al (pc' := 6) rfl (by decide) ha1 rfl ?_
  refine wq_st (k := 3) (i := .istore_n 3) (n := 1) (ls' := [some (.ref a1c), some (dz_I 0), some (.ref a1c), some (dz_I (a1n : Int)), none, none]) (pc' := 7) rfl rfl rfl rfl rfl ?_
  refine wp_s (i := .iconst 0) (n := 1) (pc' := 8) (st' := [dz_I 0]) rfl rfl ?_
  refine wq_st (k := 4) (i := .istore 4) (n := 2) (ls' := [some (.ref a1c), some (dz_I 0), some (.ref a1c), some (dz_I (a1n : Int)), some (dz_I 0), none]) (pc' := 10) rfl rfl rfl rfl rfl ?_
  refine dz_lpi (P := fun (s1 : Int × Int) => ∀ (u2 : Option Int32), mm_Wp X D mm_r111 10 [some (.ref a1c), some (dz_I s1.1), some (.ref a1c), some (dz_I (a1n : Int)), some (dz_I s1.2), Option.map Value.int u2] [] (hz_0 Z) Q) (fun s1 H => ?_) 5000 (0, 0) H none
  intro u2
  refine wp_s (i := .iload 4) (n := 2) (pc' := 12) (st' := [dz_I s1.2]) rfl rfl ?_
  refine wp_s (i := .iload_n 3) (n := 1) (pc' := 13) (st' := [dz_I (a1n : Int), dz_I s1.2]) rfl rfl ?_
  refine wq_ic (p := dz_c (a1n : Int) ≤ dz_c s1.2) (tt := 33) (pc' := 16) rfl rfl (cq_ge rfl rfl) rfl (fun c3 => ?_) (fun c3 => ?_)
  · replace H := dz_it c3 H
    refine wp_s (i := .iload_n 1) (n := 1) (pc' := 34) (st' := [dz_I s1.1]) rfl rfl ?_
    refine wq_ri rfl rfl ?_
    replace H := dz_out H
    replace H := dz_sm H
    exact H
  · replace H := dz_if c3 H
    refine wp_s (i := .aload_n 2) (n := 1) (pc' := 17) (st' := [.ref a1c]) rfl rfl ?_
    refine wp_s (i := .iload 4) (n := 2) (pc' := 19) (st' := [dz_I s1.2, .ref a1c]) rfl rfl ?_
    obtain ⟨k4, H⟩ := dz_ck H
    refine wq_ia (j' := dz_c s1.2) (pc' := 20) rfl ha1 rfl k4.1 k4.2 rfl ?_
    refine wq_st (k := 5) (i := .istore 5) (n := 2) (ls' := [some (.ref a1c), some (dz_I s1.1), some (.ref a1c), some (dz_I (a1n : Int)), some (dz_I s1.2), some (dz_I (Z a1b a1f (dz_c s1.2)))]) (pc' := 22) rfl rfl rfl rfl rfl ?_
    refine wp_s (i := .iload_n 1) (n := 1) (pc' := 23) (st' := [dz_I s1.1]) rfl rfl ?_
    refine wp_s (i := .iload 5) (n := 2) (pc' := 25) (st' := [dz_I (Z a1b a1f (dz_c s1.2)), dz_I s1.1]) rfl rfl ?_
    refine wq_2 (i := .iadd) (z := s1.1 + (Z a1b a1f (dz_c s1.2))) (pc' := 26) rfl rfl (op_add _ _) rfl ?_
    refine wq_st (k := 1) (i := .istore_n 1) (n := 1) (ls' := [some (.ref a1c), some (dz_I (s1.1 + (Z a1b a1f (dz_c s1.2)))), some (.ref a1c), some (dz_I (a1n : Int)), some (dz_I s1.2), some (dz_I (Z a1b a1f (dz_c s1.2)))]) (pc' := 27) rfl rfl rfl rfl rfl ?_
    refine wq_inc (k := 4) (d := 1) (x := s1.2) (ls' := [some (.ref a1c), some (dz_I (s1.1 + (Z a1b a1f (dz_c s1.2)))), some (.ref a1c), some (dz_I (a1n : Int)), some (dz_I (s1.2 + 1)), some (dz_I (Z a1b a1f (dz_c s1.2)))]) (pc' := 30) rfl rfl rfl rfl ?_
    refine wp_s (i := .goto (-20)) (n := 3) (pc' := 10) (st' := []) rfl rfl ?_
    replace H := dz_back H
    exact H (some (Int32.ofInt (Z a1b a1f (dz_c s1.2))))
-- 78
def jf_O_water (a1 : Int) (Z : dz_Z) : Option (Int) := if dz_c a1 = 0 then (some (Z 46 5 0)) else (if dz_c a1 = 1 then (some (Z 46 6 0)) else (if dz_c a1 = 2 then (some (Z 46 7 0)) else (if dz_c a1 = 3 then (Option.bind (jf_O_sum 46 0 8 Z) fun q5 => some q5) else (if dz_c a1 = 4 then (Option.bind (jf_O_sum 46 3 8 Z) fun q7 => some q7) else (if dz_c a1 = 5 then (some (Z 46 8 0)) else (some (-1)))))))
set_option maxRecDepth 20000 in
theorem jw_O_water {X : Option (List Int32)} {D : Nat} {Q : Option Value → mm_H → Prop} (a1 : Int) (Z : dz_Z) (H : dz_p (jf_O_water a1 Z) (fun q => Q (some (dz_I q)) (hz_0 Z))) : mm_Wp X (D + 1) mm_r78 0 [some (.ref 0), some (dz_I a1)] [] (hz_0 Z) Q := by
  unfold jf_O_water at H
  refine wp_s (i := .iload_n 1) (n := 1) (pc' := 1) (st' := [dz_I a1]) rfl rfl ?_
  by_cases c1 : dz_c a1 = 0
  · replace H := dz_it c1 H
    refine wq_ts (x' := dz_c a1) (tt := 40) rfl rfl (by rw [c1]; rfl) ?_
    refine wp_s (i := .aload_n 0) (n := 1) (pc' := 41) (st' := [.ref 0]) rfl rfl ?_
    refine wq_gr (idx := 38) (a := 46) (pc' := 44) rfl rfl ho_O rfl rfl ?_
    refine wq_gi (idx := 201) (pc' := 47) rfl rfl (ho_F (Or.inl rfl)) rfl rfl ?_
    refine wq_ri rfl rfl ?_
    replace H := dz_sm H
    exact H
  · replace H := dz_if c1 H
    by_cases c2 : dz_c a1 = 1
    · replace H := dz_it c2 H
      refine wq_ts (x' := dz_c a1) (tt := 48) rfl rfl (by rw [c2]; rfl) ?_
      refine wp_s (i := .aload_n 0) (n := 1) (pc' := 49) (st' := [.ref 0]) rfl rfl ?_
      refine wq_gr (idx := 38) (a := 46) (pc' := 52) rfl rfl ho_O rfl rfl ?_
      refine wq_gi (idx := 204) (pc' := 55) rfl rfl (ho_F (Or.inl rfl)) rfl rfl ?_
      refine wq_ri rfl rfl ?_
      replace H := dz_sm H
      exact H
    · replace H := dz_if c2 H
      by_cases c3 : dz_c a1 = 2
      · replace H := dz_it c3 H
        refine wq_ts (x' := dz_c a1) (tt := 56) rfl rfl (by rw [c3]; rfl) ?_
        refine wp_s (i := .aload_n 0) (n := 1) (pc' := 57) (st' := [.ref 0]) rfl rfl ?_
        refine wq_gr (idx := 38) (a := 46) (pc' := 60) rfl rfl ho_O rfl rfl ?_
        refine wq_gi (idx := 207) (pc' := 63) rfl rfl (ho_F (Or.inl rfl)) rfl rfl ?_
        refine wq_ri rfl rfl ?_
        replace H := dz_sm H
        exact H
      · replace H := dz_if c3 H
        by_cases c4 : dz_c a1 = 3
        · replace H := dz_it c4 H
          refine wq_ts (x' := dz_c a1) (tt := 64) rfl rfl (by rw [c4]; rfl) ?_
          refine wp_s (i := .aload_n 0) (n := 1) (pc' := 65) (st' := [.ref 0]) rfl rfl ?_
          refine wq_gr (idx := 38) (a := 46) (pc' := 68) rfl rfl ho_O rfl rfl ?_
          refine wq_gr (idx := 164) (a := 46 + 1) (pc' := 71) rfl rfl (ho_F (Or.inl rfl)) rfl rfl ?_
          refine wq_cs (Dq := D) (r' := mm_r111) (as0 := [.ref (46 + 1)]) (rest := []) (ls' := [some (.ref (46 + 1)), none, none, none, none, none]) (pc' := 74) rfl rfl (by decide) rfl rfl rfl rfl rfl ?_
          refine jw_O_sum (X := X) (D := D + 0) (46 + 1) 46 0 8 (ha_F_0 (Or.inl rfl)) Z (dz_pm (dz_bi H) (fun q5 H => ?_))
          show mm_Wp X (D + 1) mm_r78 74 [some (.ref 0), some (dz_I a1)] [dz_I q5] (hz_0 Z) Q
          refine wq_ri rfl rfl ?_
          replace H := dz_sm H
          exact H
        · replace H := dz_if c4 H
          by_cases c6 : dz_c a1 = 4
          · replace H := dz_it c6 H
            refine wq_ts (x' := dz_c a1) (tt := 75) rfl rfl (by rw [c6]; rfl) ?_
            refine wp_s (i := .aload_n 0) (n := 1) (pc' := 76) (st' := [.ref 0]) rfl rfl ?_
            refine wq_gr (idx := 38) (a := 46) (pc' := 79) rfl rfl ho_O rfl rfl ?_
            refine wq_gr (idx := 175) (a := 46 + 4) (pc' := 82) rfl rfl (ho_F (Or.inl rfl)) rfl rfl ?_
            refine wq_cs (Dq := D) (r' := mm_r111) (as0 := [.ref (46 + 4)]) (rest := []) (ls' := [some (.ref (46 + 4)), none, none, none, none, none]) (pc' := 85) rfl rfl (by decide) rfl rfl rfl rfl rfl ?_
            refine jw_O_sum (X := X) (D := D + 0) (46 + 4) 46 3 8 (ha_F_3 (Or.inl rfl)) Z (dz_pm (dz_bi H) (fun q7 H => ?_))
            show mm_Wp X (D + 1) mm_r78 85 [some (.ref 0), some (dz_I a1)] [dz_I q7] (hz_0 Z) Q
            refine wq_ri rfl rfl ?_
            replace H := dz_sm H
            exact H
          · replace H := dz_if c6 H
            by_cases c8 : dz_c a1 = 5
            · replace H := dz_it c8 H
              refine wq_ts (x' := dz_c a1) (tt := 86) rfl rfl (by rw [c8]; rfl) ?_
              refine wp_s (i := .aload_n 0) (n := 1) (pc' := 87) (st' := [.ref 0]) rfl rfl ?_
              refine wq_gr (idx := 38) (a := 46) (pc' := 90) rfl rfl ho_O rfl rfl ?_
              refine wq_gi (idx := 214) (pc' := 93) rfl rfl (ho_F (Or.inl rfl)) rfl rfl ?_
              refine wq_ri rfl rfl ?_
              replace H := dz_sm H
              exact H
            · replace H := dz_if c8 H
              refine wq_ts (x' := dz_c a1) (tt := 94) rfl rfl (by unfold mm_sw; rw [if_pos (by omega)]; rfl) ?_
              refine wp_s (i := .iconst (-1)) (n := 1) (pc' := 95) (st' := [dz_I (-1)]) rfl rfl ?_
              refine wq_ri rfl rfl ?_
              replace H := dz_sm H
              exact H
-- 79
def jf_O_loud (a1 : Int) (Z : dz_Z) : Option (Int) := Option.bind (jf_O_isSpout a1 Z) fun q1 => if q1 = false then (some (-1)) else (if 0 ≤ dz_c a1 ∧ dz_c a1 < 8 then some (Z 46 4 (dz_c a1)) else none)
set_option maxRecDepth 20000 in
theorem jw_O_loud {X : Option (List Int32)} {D : Nat} {Q : Option Value → mm_H → Prop} (a1 : Int) (Z : dz_Z) (H : dz_p (jf_O_loud a1 Z) (fun q => Q (some (dz_I q)) (hz_0 Z))) : mm_Wp X (D + 1) mm_r79 0 [some (.ref 0), some (dz_I a1)] [] (hz_0 Z) Q := by
  unfold jf_O_loud at H
  refine wp_s (i := .aload_n 0) (n := 1) (pc' := 1) (st' := [.ref 0]) rfl rfl ?_
  refine wp_s (i := .iload_n 1) (n := 1) (pc' := 2) (st' := [dz_I a1, .ref 0]) rfl rfl ?_
  refine wq_cv (Dq := D) (r' := mm_r104) (as0 := [dz_I a1]) (rest := []) (ls' := [some (.ref 0), some (dz_I a1)]) (pc' := 5) rfl rfl rfl rfl ho_O rfl rfl rfl ?_
  refine jw_O_isSpout (X := X) (D := D + 0) a1 Z (dz_pm (dz_bi H) (fun q1 H => ?_))
  show mm_Wp X (D + 1) mm_r79 5 [some (.ref 0), some (dz_I a1)] [dz_B q1] (hz_0 Z) Q
  refine wq_if (p := q1 = false) (tt := 20) (pc' := 8) rfl rfl (cb_eq) rfl (fun c2 => ?_) (fun c2 => ?_)
  · replace H := dz_it c2 H
    refine wp_s (i := .iconst (-1)) (n := 1) (pc' := 21) (st' := [dz_I (-1)]) rfl rfl ?_
    refine wq_ri rfl rfl ?_
    replace H := dz_sm H
    exact H
  · replace H := dz_if c2 H
    refine wp_s (i := .aload_n 0) (n := 1) (pc' := 9) (st' := [.ref 0]) rfl rfl ?_
    refine wq_gr (idx := 38) (a := 46) (pc' := 12) rfl rfl ho_O rfl rfl ?_
    refine wq_gr (idx := 217) (a := 46 + 5) (pc' := 15) rfl rfl (ho_F (Or.inl rfl)) rfl rfl ?_
    refine wp_s (i := .iload_n 1) (n := 1) (pc' := 16) (st' := [dz_I a1, .ref (46 + 5)]) rfl rfl ?_
    obtain ⟨k3, H⟩ := dz_ck H
    refine wq_ia (j' := dz_c a1) (pc' := 17) rfl (ha_F_4 (Or.inl rfl)) rfl k3.1 k3.2 rfl ?_
    refine wp_s (i := .goto 4) (n := 3) (pc' := 21) (st' := [dz_I (Z 46 4 (dz_c a1))]) rfl rfl ?_
    refine wq_ri rfl rfl ?_
    replace H := dz_sm H
    exact H
-- 105
def jf_O_isShower (a1 : Int) (Z : dz_Z) : Option (Bool) := if dz_c a1 < 0 then (some false) else (if hz_isP (Z 0 2 0).toNat then if dz_c (Z ((Z 0 2 0).toNat) 10 0) ≤ dz_c a1 then (some false) else (some true) else none)
set_option maxRecDepth 20000 in
theorem jw_O_isShower {X : Option (List Int32)} {D : Nat} {Q : Option Value → mm_H → Prop} (a1 : Int) (Z : dz_Z) (H : dz_p (jf_O_isShower a1 Z) (fun q => Q (some (dz_B q)) (hz_0 Z))) : mm_Wp X D mm_r105 0 [some (.ref 0), some (dz_I a1)] [] (hz_0 Z) Q := by
  unfold jf_O_isShower at H
  refine wp_s (i := .iload_n 1) (n := 1) (pc' := 1) (st' := [dz_I a1]) rfl rfl ?_
  refine wq_if (p := dz_c a1 < 0) (tt := 19) (pc' := 4) rfl rfl (cz_lt rfl) rfl (fun c1 => ?_) (fun c1 => ?_)
  · replace H := dz_it c1 H
    refine wp_s (i := .iconst 0) (n := 1) (pc' := 20) (st' := [dz_I 0]) rfl rfl ?_
    refine wq_rf rfl rfl ?_
    replace H := dz_sm H
    exact H
  · replace H := dz_if c1 H
    refine wp_s (i := .iload_n 1) (n := 1) (pc' := 5) (st' := [dz_I a1]) rfl rfl ?_
    refine wp_s (i := .aload_n 0) (n := 1) (pc' := 6) (st' := [.ref 0, dz_I a1]) rfl rfl ?_
    obtain ⟨k2, H⟩ := dz_ck H
    refine wq_gd (idx := 24) (pc' := 9) rfl rfl ho_O rfl rfl ?_
    refine wq_gi (idx := 117) (pc' := 12) rfl rfl (ho_P k2) rfl rfl ?_
    refine wq_ic (p := dz_c (Z ((Z 0 2 0).toNat) 10 0) ≤ dz_c a1) (tt := 19) (pc' := 15) rfl rfl (cq_ge rfl rfl) rfl (fun c3 => ?_) (fun c3 => ?_)
    · replace H := dz_it c3 H
      refine wp_s (i := .iconst 0) (n := 1) (pc' := 20) (st' := [dz_I 0]) rfl rfl ?_
      refine wq_rf rfl rfl ?_
      replace H := dz_sm H
      exact H
    · replace H := dz_if c3 H
      refine wp_s (i := .iconst 1) (n := 1) (pc' := 16) (st' := [dz_I 1]) rfl rfl ?_
      refine wp_s (i := .goto 4) (n := 3) (pc' := 20) (st' := [dz_I 1]) rfl rfl ?_
      refine wq_rt rfl rfl ?_
      replace H := dz_sm H
      exact H
-- 80
def jf_O_shower (a1 : Int) (a2 : Int) (Z : dz_Z) : Option (Int) := Option.bind (jf_O_isShower a1 Z) fun q1 => if q1 = false then (some (-1)) else (if dz_c a2 < (-1) then (some (-1)) else (if hz_isS (Z 0 3 0).toNat then if 0 ≤ dz_c a1 ∧ dz_c a1 < 3 then if dz_c a2 < dz_c (Z ((Z 0 3 0).toNat) 3 (dz_c a1)) then (if dz_c a2 ≠ (-1) then (if 0 ≤ dz_c a2 ∧ dz_c a2 < 12 then some (Z ((Z 0 3 0).toNat) (20 + Int.toNat (dz_c a1)) (dz_c a2)) else none) else (some (Z ((Z 0 3 0).toNat) 3 (dz_c a1)))) else (some (-1)) else none else none))
set_option maxRecDepth 20000 in
theorem jw_O_shower {X : Option (List Int32)} {D : Nat} {Q : Option Value → mm_H → Prop} (a1 : Int) (a2 : Int) (Z : dz_Z) (H : dz_p (jf_O_shower a1 a2 Z) (fun q => Q (some (dz_I q)) (hz_0 Z))) : mm_Wp X (D + 1) mm_r80 0 [some (.ref 0), some (dz_I a1), some (dz_I a2)] [] (hz_0 Z) Q := by
  unfold jf_O_shower at H
  refine wp_s (i := .aload_n 0) (n := 1) (pc' := 1) (st' := [.ref 0]) rfl rfl ?_
  refine wp_s (i := .iload_n 1) (n := 1) (pc' := 2) (st' := [dz_I a1, .ref 0]) rfl rfl ?_
  refine wq_cv (Dq := D) (r' := mm_r105) (as0 := [dz_I a1]) (rest := []) (ls' := [some (.ref 0), some (dz_I a1)]) (pc' := 5) rfl rfl rfl rfl ho_O rfl rfl rfl ?_
  refine jw_O_isShower (X := X) (D := D + 0) a1 Z (dz_pm (dz_bi H) (fun q1 H => ?_))
  show mm_Wp X (D + 1) mm_r80 5 [some (.ref 0), some (dz_I a1), some (dz_I a2)] [dz_B q1] (hz_0 Z) Q
  refine wq_if (p := q1 = false) (tt := 26) (pc' := 8) rfl rfl (cb_eq) rfl (fun c2 => ?_) (fun c2 => ?_)
  · replace H := dz_it c2 H
    refine wp_s (i := .iconst (-1)) (n := 1) (pc' := 27) (st' := [dz_I (-1)]) rfl rfl ?_
    refine wq_ri rfl rfl ?_
    replace H := dz_sm H
    exact H
  · replace H := dz_if c2 H
    refine wp_s (i := .iload_n 2) (n := 1) (pc' := 9) (st' := [dz_I a2]) rfl rfl ?_
    refine wp_s (i := .iconst (-1)) (n := 1) (pc' := 10) (st' := [dz_I (-1), dz_I a2]) rfl rfl ?_
    refine wq_ic (p := dz_c a2 < (-1)) (tt := 26) (pc' := 13) rfl rfl (cq_lt rfl dk_m1) rfl (fun c3 => ?_) (fun c3 => ?_)
    · replace H := dz_it c3 H
      refine wp_s (i := .iconst (-1)) (n := 1) (pc' := 27) (st' := [dz_I (-1)]) rfl rfl ?_
      refine wq_ri rfl rfl ?_
      replace H := dz_sm H
      exact H
    · replace H := dz_if c3 H
      refine wp_s (i := .iload_n 2) (n := 1) (pc' := 14) (st' := [dz_I a2]) rfl rfl ?_
      refine wp_s (i := .aload_n 0) (n := 1) (pc' := 15) (st' := [.ref 0, dz_I a2]) rfl rfl ?_
      obtain ⟨k4, H⟩ := dz_ck H
      refine wq_gd (idx := 31) (pc' := 18) rfl rfl ho_O rfl rfl ?_
      refine wq_gr (idx := 223) (a := (Z 0 3 0).toNat + 4) (pc' := 21) rfl rfl (ho_S k4) rfl rfl ?_
      refine wp_s (i := .iload_n 1) (n := 1) (pc' := 22) (st' := [dz_I a1, .ref ((Z 0 3 0).toNat + 4), dz_I a2]) rfl rfl ?_
      obtain ⟨k5, H⟩ := dz_ck H
      refine wq_ia (j' := dz_c a1) (pc' := 23) rfl (ha_S_3 k4) rfl k5.1 k5.2 rfl ?_
      refine wq_ic (p := dz_c a2 < dz_c (Z ((Z 0 3 0).toNat) 3 (dz_c a1))) (tt := 28) (pc' := 26) rfl rfl (cq_lt rfl rfl) rfl (fun c6 => ?_) (fun c6 => ?_)
      · replace H := dz_it c6 H
        refine wp_s (i := .iload_n 2) (n := 1) (pc' := 29) (st' := [dz_I a2]) rfl rfl ?_
        refine wp_s (i := .iconst (-1)) (n := 1) (pc' := 30) (st' := [dz_I (-1), dz_I a2]) rfl rfl ?_
        refine wq_ic (p := dz_c a2 ≠ (-1)) (tt := 45) (pc' := 33) rfl rfl (cq_ne rfl dk_m1) rfl (fun c7 => ?_) (fun c7 => ?_)
        · replace H := dz_it c7 H
          refine wp_s (i := .aload_n 0) (n := 1) (pc' := 46) (st' := [.ref 0]) rfl rfl ?_
          refine wq_gd (idx := 31) (pc' := 49) rfl rfl ho_O rfl rfl ?_
          refine wq_gr (idx := 226) (a := (Z 0 3 0).toNat + 5) (pc' := 52) rfl rfl (ho_S k4) rfl rfl ?_
          refine wp_s (i := .iload_n 1) (n := 1) (pc' := 53) (st' := [dz_I a1, .ref ((Z 0 3 0).toNat + 5)]) rfl rfl ?_
          refine wq_aa (j' := dz_c a1) (a := (Z 0 3 0).toNat + 6 + Int.toNat (dz_c a1)) (pc' := 54) rfl (by decide) (ha_S_4 k4) rfl k5.1 k5.2 (hr_S k5.1 k5.2) rfl ?_
          refine wp_s (i := .iload_n 2) (n := 1) (pc' := 55) (st' := [dz_I a2, .ref ((Z 0 3 0).toNat + 6 + Int.toNat (dz_c a1))]) rfl rfl ?_
          obtain ⟨k8, H⟩ := dz_ck H
          refine wq_ia (j' := dz_c a2) (pc' := 56) rfl (ha_Sr k4 k5.1 k5.2) rfl k8.1 k8.2 rfl ?_
          refine wq_ri rfl rfl ?_
          replace H := dz_sm H
          exact H
        · replace H := dz_if c7 H
          refine wp_s (i := .aload_n 0) (n := 1) (pc' := 34) (st' := [.ref 0]) rfl rfl ?_
          refine wq_gd (idx := 31) (pc' := 37) rfl rfl ho_O rfl rfl ?_
          refine wq_gr (idx := 223) (a := (Z 0 3 0).toNat + 4) (pc' := 40) rfl rfl (ho_S k4) rfl rfl ?_
          refine wp_s (i := .iload_n 1) (n := 1) (pc' := 41) (st' := [dz_I a1, .ref ((Z 0 3 0).toNat + 4)]) rfl rfl ?_
          refine wq_ia (j' := dz_c a1) (pc' := 42) rfl (ha_S_3 k4) rfl k5.1 k5.2 rfl ?_
          refine wp_s (i := .goto 14) (n := 3) (pc' := 56) (st' := [dz_I (Z ((Z 0 3 0).toNat) 3 (dz_c a1))]) rfl rfl ?_
          refine wq_ri rfl rfl ?_
          replace H := dz_sm H
          exact H
      · replace H := dz_if c6 H
        refine wp_s (i := .iconst (-1)) (n := 1) (pc' := 27) (st' := [dz_I (-1)]) rfl rfl ?_
        refine wq_ri rfl rfl ?_
        replace H := dz_sm H
        exact H
-- 81
def jf_O_plays (a1 : Int) (a2 : Int) (Z : dz_Z) : Option (Int × dz_Z) := Option.bind (jf_O_isShower a1 Z) fun q1 => if q1 = false then (some ((-1), Z)) else (if dz_c a2 < 0 then (some ((-1), Z)) else (if hz_isS (Z 0 3 0).toNat then if 0 ≤ dz_c a1 ∧ dz_c a1 < 3 then if dz_c a2 < dz_c (Z ((Z 0 3 0).toNat) 3 (dz_c a1)) then (if hz_isP (Z 0 2 0).toNat then Option.bind (jf_C_perform ((Z 0 2 0).toNat) ((Z 0 3 0).toNat) a1 Z) fun q8 => if 0 ≤ dz_c a2 ∧ dz_c a2 < 12 then some (q8 54 1 (dz_c a2), q8) else none else none) else (some ((-1), Z)) else none else none))
set_option maxRecDepth 20000 in
theorem jw_O_plays {X : Option (List Int32)} {D : Nat} {Q : Option Value → mm_H → Prop} (a1 : Int) (a2 : Int) (Z : dz_Z) (H : dz_p (jf_O_plays a1 a2 Z) (fun q => Q (some (dz_I q.1)) (hz_0 q.2))) : mm_Wp X (D + 5) mm_r81 0 [some (.ref 0), some (dz_I a1), some (dz_I a2)] [] (hz_0 Z) Q := by
  unfold jf_O_plays at H
  refine wp_s (i := .aload_n 0) (n := 1) (pc' := 1) (st' := [.ref 0]) rfl rfl ?_
  refine wp_s (i := .iload_n 1) (n := 1) (pc' := 2) (st' := [dz_I a1, .ref 0]) rfl rfl ?_
  refine wq_cv (Dq := (D + 4)) (r' := mm_r105) (as0 := [dz_I a1]) (rest := []) (ls' := [some (.ref 0), some (dz_I a1)]) (pc' := 5) rfl rfl rfl rfl ho_O rfl rfl rfl ?_
  refine jw_O_isShower (X := X) (D := D + 4) a1 Z (dz_pm (dz_bi H) (fun q1 H => ?_))
  show mm_Wp X (D + 5) mm_r81 5 [some (.ref 0), some (dz_I a1), some (dz_I a2)] [dz_B q1] (hz_0 Z) Q
  refine wq_if (p := q1 = false) (tt := 25) (pc' := 8) rfl rfl (cb_eq) rfl (fun c2 => ?_) (fun c2 => ?_)
  · replace H := dz_it c2 H
    refine wp_s (i := .iconst (-1)) (n := 1) (pc' := 26) (st' := [dz_I (-1)]) rfl rfl ?_
    refine wq_ri rfl rfl ?_
    replace H := dz_sm H
    exact H
  · replace H := dz_if c2 H
    refine wp_s (i := .iload_n 2) (n := 1) (pc' := 9) (st' := [dz_I a2]) rfl rfl ?_
    refine wq_if (p := dz_c a2 < 0) (tt := 25) (pc' := 12) rfl rfl (cz_lt rfl) rfl (fun c3 => ?_) (fun c3 => ?_)
    · replace H := dz_it c3 H
      refine wp_s (i := .iconst (-1)) (n := 1) (pc' := 26) (st' := [dz_I (-1)]) rfl rfl ?_
      refine wq_ri rfl rfl ?_
      replace H := dz_sm H
      exact H
    · replace H := dz_if c3 H
      refine wp_s (i := .iload_n 2) (n := 1) (pc' := 13) (st' := [dz_I a2]) rfl rfl ?_
      refine wp_s (i := .aload_n 0) (n := 1) (pc' := 14) (st' := [.ref 0, dz_I a2]) rfl rfl ?_
      obtain ⟨k4, H⟩ := dz_ck H
      refine wq_gd (idx := 31) (pc' := 17) rfl rfl ho_O rfl rfl ?_
      refine wq_gr (idx := 223) (a := (Z 0 3 0).toNat + 4) (pc' := 20) rfl rfl (ho_S k4) rfl rfl ?_
      refine wp_s (i := .iload_n 1) (n := 1) (pc' := 21) (st' := [dz_I a1, .ref ((Z 0 3 0).toNat + 4), dz_I a2]) rfl rfl ?_
      obtain ⟨k5, H⟩ := dz_ck H
      refine wq_ia (j' := dz_c a1) (pc' := 22) rfl (ha_S_3 k4) rfl k5.1 k5.2 rfl ?_
      refine wq_ic (p := dz_c a2 < dz_c (Z ((Z 0 3 0).toNat) 3 (dz_c a1))) (tt := 27) (pc' := 25) rfl rfl (cq_lt rfl rfl) rfl (fun c6 => ?_) (fun c6 => ?_)
      · replace H := dz_it c6 H
        refine wp_s (i := .aload_n 0) (n := 1) (pc' := 28) (st' := [.ref 0]) rfl rfl ?_
        refine wq_gr (idx := 45) (a := 54) (pc' := 31) rfl rfl ho_O rfl rfl ?_
        refine wp_s (i := .aload_n 0) (n := 1) (pc' := 32) (st' := [.ref 0, .ref 54]) rfl rfl ?_
        obtain ⟨k7, H⟩ := dz_ck H
        refine wq_gd (idx := 24) (pc' := 35) rfl rfl ho_O rfl rfl ?_
        refine wp_s (i := .aload_n 0) (n := 1) (pc' := 36) (st' := [.ref 0, .ref ((Z 0 2 0).toNat), .ref 54]) rfl rfl ?_
        refine wq_gd (idx := 31) (pc' := 39) rfl rfl ho_O rfl rfl ?_
        refine wp_s (i := .iload_n 1) (n := 1) (pc' := 40) (st' := [dz_I a1, .ref ((Z 0 3 0).toNat), .ref ((Z 0 2 0).toNat), .ref 54]) rfl rfl ?_
        refine wq_cv (Dq := (D + 4)) (r' := mm_r5) (as0 := [.ref ((Z 0 2 0).toNat), .ref ((Z 0 3 0).toNat), dz_I a1]) (rest := []) (ls' := [some (.ref 54), some (.ref ((Z 0 2 0).toNat)), some (.ref ((Z 0 3 0).toNat)), some (dz_I a1), none, none]) (pc' := 43) rfl rfl rfl rfl ho_C rfl rfl rfl ?_
        refine jw_C_perform (X := X) (D := D + 0) ((Z 0 2 0).toNat) k7 ((Z 0 3 0).toNat) k4 a1 Z (dz_pm (dz_bi H) (fun q8 H => ?_))
        show mm_Wp X (D + 5) mm_r81 43 [some (.ref 0), some (dz_I a1), some (dz_I a2)] [] (hz_0 q8) Q
        refine wp_s (i := .aload_n 0) (n := 1) (pc' := 44) (st' := [.ref 0]) rfl rfl ?_
        refine wq_gr (idx := 45) (a := 54) (pc' := 47) rfl rfl ho_O rfl rfl ?_
        refine wq_gr (idx := 234) (a := 63) (pc' := 50) rfl rfl ho_C rfl rfl ?_
        refine wp_s (i := .iload_n 2) (n := 1) (pc' := 51) (st' := [dz_I a2, .ref 63]) rfl rfl ?_
        obtain ⟨k9, H⟩ := dz_ck H
        refine wq_ia (j' := dz_c a2) (pc' := 52) rfl ha_C_1 rfl k9.1 k9.2 rfl ?_
        refine wq_ri rfl rfl ?_
        replace H := dz_sm H
        exact H
      · replace H := dz_if c6 H
        refine wp_s (i := .iconst (-1)) (n := 1) (pc' := 26) (st' := [dz_I (-1)]) rfl rfl ?_
        refine wq_ri rfl rfl ?_
        replace H := dz_sm H
        exact H
-- 112
def jf_O_allSpouts (Z : dz_Z) : Option (Int) := if hz_isP (Z 0 2 0).toNat then some ((dz_sl 1 (Z ((Z 0 2 0).toNat) 6 0)) - 1) else none
set_option maxRecDepth 20000 in
theorem jw_O_allSpouts {X : Option (List Int32)} {D : Nat} {Q : Option Value → mm_H → Prop} (Z : dz_Z) (H : dz_p (jf_O_allSpouts Z) (fun q => Q (some (dz_I q)) (hz_0 Z))) : mm_Wp X D mm_r112 0 [some (.ref 0)] [] (hz_0 Z) Q := by
  unfold jf_O_allSpouts at H
  refine wp_s (i := .iconst 1) (n := 1) (pc' := 1) (st' := [dz_I 1]) rfl rfl ?_
  refine wp_s (i := .aload_n 0) (n := 1) (pc' := 2) (st' := [.ref 0, dz_I 1]) rfl rfl ?_
  obtain ⟨k1, H⟩ := dz_ck H
  refine wq_gd (idx := 24) (pc' := 5) rfl rfl ho_O rfl rfl ?_
  refine wq_gi (idx := 114) (pc' := 8) rfl rfl (ho_P k1) rfl rfl ?_
  refine wq_2 (i := .ishl) (z := dz_sl 1 (Z ((Z 0 2 0).toNat) 6 0)) (pc' := 9) rfl rfl (op_shl _ _) rfl ?_
  refine wp_s (i := .iconst 1) (n := 1) (pc' := 10) (st' := [dz_I 1, dz_I (dz_sl 1 (Z ((Z 0 2 0).toNat) 6 0))]) rfl rfl ?_
  refine wq_2 (i := .isub) (z := (dz_sl 1 (Z ((Z 0 2 0).toNat) 6 0)) - 1) (pc' := 11) rfl rfl (op_sub _ _) rfl ?_
  refine wq_ri rfl rfl ?_
  replace H := dz_sm H
  exact H
-- 82
def jf_O_falls (a1 : Int) (a2 : Int) (Z : dz_Z) : Option (Int × dz_Z) := Option.bind (jf_O_isShower a1 Z) fun q1 => if q1 = false then (some ((-1), Z)) else (if dz_c a2 < 0 then (some ((-1), Z)) else (if dz_c a2 ≤ 7 then (if hz_isP (Z 0 2 0).toNat then if hz_isS (Z 0 3 0).toNat then Option.bind (jf_C_perform ((Z 0 2 0).toNat) ((Z 0 3 0).toNat) a1 Z) fun q7 => if dz_c a2 = 0 then (some (q7 55 6 0, q7)) else (if dz_c a2 = 1 then (some (q7 55 7 0, q7)) else (if dz_c a2 = 2 then (Option.bind (jf_O_sum 55 0 8 q7) fun q11 => some (q11, q7)) else (if dz_c a2 = 3 then (Option.bind (jf_O_sum 55 3 8 q7) fun q13 => some (q13, q7)) else (if dz_c a2 = 4 then (some (q7 55 8 0, q7)) else (if dz_c a2 = 5 then (Option.bind (jf_C_loudestSecond q7) fun q16 => some (q16, q7)) else (if dz_c a2 = 6 then (if hz_isP (q7 0 2 0).toNat then Option.bind (jf_F_brokenSpouts 55 ((q7 0 2 0).toNat) q7) fun q19 => some (q19, q7) else none) else (Option.bind (jf_O_allSpouts q7) fun q20 => some (dz_an q20 (dz_xo (q7 55 9 0) (-1)), q7)))))))) else none else none) else (some ((-1), Z))))
set_option maxRecDepth 20000 in
theorem jw_O_falls {X : Option (List Int32)} {D : Nat} {Q : Option Value → mm_H → Prop} (a1 : Int) (a2 : Int) (Z : dz_Z) (H : dz_p (jf_O_falls a1 a2 Z) (fun q => Q (some (dz_I q.1)) (hz_0 q.2))) : mm_Wp X (D + 5) mm_r82 0 [some (.ref 0), some (dz_I a1), some (dz_I a2), none] [] (hz_0 Z) Q := by
  unfold jf_O_falls at H
  refine wp_s (i := .aload_n 0) (n := 1) (pc' := 1) (st' := [.ref 0]) rfl rfl ?_
  refine wp_s (i := .iload_n 1) (n := 1) (pc' := 2) (st' := [dz_I a1, .ref 0]) rfl rfl ?_
  refine wq_cv (Dq := (D + 4)) (r' := mm_r105) (as0 := [dz_I a1]) (rest := []) (ls' := [some (.ref 0), some (dz_I a1)]) (pc' := 5) rfl rfl rfl rfl ho_O rfl rfl rfl ?_
  refine jw_O_isShower (X := X) (D := D + 4) a1 Z (dz_pm (dz_bi H) (fun q1 H => ?_))
  show mm_Wp X (D + 5) mm_r82 5 [some (.ref 0), some (dz_I a1), some (dz_I a2), none] [dz_B q1] (hz_0 Z) Q
  refine wq_if (p := q1 = false) (tt := 18) (pc' := 8) rfl rfl (cb_eq) rfl (fun c2 => ?_) (fun c2 => ?_)
  · replace H := dz_it c2 H
    refine wp_s (i := .iconst (-1)) (n := 1) (pc' := 19) (st' := [dz_I (-1)]) rfl rfl ?_
    refine wq_ri rfl rfl ?_
    replace H := dz_sm H
    exact H
  · replace H := dz_if c2 H
    refine wp_s (i := .iload_n 2) (n := 1) (pc' := 9) (st' := [dz_I a2]) rfl rfl ?_
    refine wq_if (p := dz_c a2 < 0) (tt := 18) (pc' := 12) rfl rfl (cz_lt rfl) rfl (fun c3 => ?_) (fun c3 => ?_)
    · replace H := dz_it c3 H
      refine wp_s (i := .iconst (-1)) (n := 1) (pc' := 19) (st' := [dz_I (-1)]) rfl rfl ?_
      refine wq_ri rfl rfl ?_
      replace H := dz_sm H
      exact H
    · replace H := dz_if c3 H
      refine wp_s (i := .iload_n 2) (n := 1) (pc' := 13) (st' := [dz_I a2]) rfl rfl ?_
      refine wp_s (i := .bipush 7) (n := 2) (pc' := 15) (st' := [dz_I 7, dz_I a2]) rfl rfl ?_
      refine wq_ic (p := dz_c a2 ≤ 7) (tt := 20) (pc' := 18) rfl rfl (cq_le rfl dk_7) rfl (fun c4 => ?_) (fun c4 => ?_)
      · replace H := dz_it c4 H
        refine wp_s (i := .aload_n 0) (n := 1) (pc' := 21) (st' := [.ref 0]) rfl rfl ?_
        refine wq_gr (idx := 45) (a := 54) (pc' := 24) rfl rfl ho_O rfl rfl ?_
        refine wp_s (i := .aload_n 0) (n := 1) (pc' := 25) (st' := [.ref 0, .ref 54]) rfl rfl ?_
        obtain ⟨k5, H⟩ := dz_ck H
        refine wq_gd (idx := 24) (pc' := 28) rfl rfl ho_O rfl rfl ?_
        refine wp_s (i := .aload_n 0) (n := 1) (pc' := 29) (st' := [.ref 0, .ref ((Z 0 2 0).toNat), .ref 54]) rfl rfl ?_
        obtain ⟨k6, H⟩ := dz_ck H
        refine wq_gd (idx := 31) (pc' := 32) rfl rfl ho_O rfl rfl ?_
        refine wp_s (i := .iload_n 1) (n := 1) (pc' := 33) (st' := [dz_I a1, .ref ((Z 0 3 0).toNat), .ref ((Z 0 2 0).toNat), .ref 54]) rfl rfl ?_
        refine wq_cv (Dq := (D + 4)) (r' := mm_r5) (as0 := [.ref ((Z 0 2 0).toNat), .ref ((Z 0 3 0).toNat), dz_I a1]) (rest := []) (ls' := [some (.ref 54), some (.ref ((Z 0 2 0).toNat)), some (.ref ((Z 0 3 0).toNat)), some (dz_I a1), none, none]) (pc' := 36) rfl rfl rfl rfl ho_C rfl rfl rfl ?_
        refine jw_C_perform (X := X) (D := D + 0) ((Z 0 2 0).toNat) k5 ((Z 0 3 0).toNat) k6 a1 Z (dz_pm (dz_bi H) (fun q7 H => ?_))
        show mm_Wp X (D + 5) mm_r82 36 [some (.ref 0), some (dz_I a1), some (dz_I a2), none] [] (hz_0 q7) Q
        refine wp_s (i := .aload_n 0) (n := 1) (pc' := 37) (st' := [.ref 0]) rfl rfl ?_
        refine wq_gr (idx := 45) (a := 54) (pc' := 40) rfl rfl ho_O rfl rfl ?_
        refine wq_gr (idx := 235) (a := 55) (pc' := 43) rfl rfl ho_C rfl rfl ?_
        refine wp_s (i := .astore_n 3) (n := 1) (pc' := 44) (ls' := [some (.ref 0), some (dz_I a1), some (dz_I a2), some (.ref 55)]) (st' := []) rfl rfl ?_
        refine wp_s (i := .iload_n 2) (n := 1) (pc' := 45) (st' := [dz_I a2]) rfl rfl ?_
        by_cases c8 : dz_c a2 = 0
        · replace H := dz_it c8 H
          refine wq_ts (x' := dz_c a2) (tt := 88) rfl rfl (by rw [c8]; rfl) ?_
          refine wp_s (i := .aload_n 3) (n := 1) (pc' := 89) (st' := [.ref 55]) rfl rfl ?_
          refine wq_gi (idx := 204) (pc' := 92) rfl rfl (ho_F (Or.inr (Or.inl rfl))) rfl rfl ?_
          refine wq_ri rfl rfl ?_
          replace H := dz_sm H
          exact H
        · replace H := dz_if c8 H
          by_cases c9 : dz_c a2 = 1
          · replace H := dz_it c9 H
            refine wq_ts (x' := dz_c a2) (tt := 93) rfl rfl (by rw [c9]; rfl) ?_
            refine wp_s (i := .aload_n 3) (n := 1) (pc' := 94) (st' := [.ref 55]) rfl rfl ?_
            refine wq_gi (idx := 207) (pc' := 97) rfl rfl (ho_F (Or.inr (Or.inl rfl))) rfl rfl ?_
            refine wq_ri rfl rfl ?_
            replace H := dz_sm H
            exact H
          · replace H := dz_if c9 H
            by_cases c10 : dz_c a2 = 2
            · replace H := dz_it c10 H
              refine wq_ts (x' := dz_c a2) (tt := 98) rfl rfl (by rw [c10]; rfl) ?_
              refine wp_s (i := .aload_n 3) (n := 1) (pc' := 99) (st' := [.ref 55]) rfl rfl ?_
              refine wq_gr (idx := 164) (a := 55 + 1) (pc' := 102) rfl rfl (ho_F (Or.inr (Or.inl rfl))) rfl rfl ?_
              refine wq_cs (Dq := (D + 4)) (r' := mm_r111) (as0 := [.ref (55 + 1)]) (rest := []) (ls' := [some (.ref (55 + 1)), none, none, none, none, none]) (pc' := 105) rfl rfl (by decide) rfl rfl rfl rfl rfl ?_
              refine jw_O_sum (X := X) (D := D + 4) (55 + 1) 55 0 8 (ha_F_0 (Or.inr (Or.inl rfl))) q7 (dz_pm (dz_bi H) (fun q11 H => ?_))
              show mm_Wp X (D + 5) mm_r82 105 [some (.ref 0), some (dz_I a1), some (dz_I a2), some (.ref 55)] [dz_I q11] (hz_0 q7) Q
              refine wq_ri rfl rfl ?_
              replace H := dz_sm H
              exact H
            · replace H := dz_if c10 H
              by_cases c12 : dz_c a2 = 3
              · replace H := dz_it c12 H
                refine wq_ts (x' := dz_c a2) (tt := 106) rfl rfl (by rw [c12]; rfl) ?_
                refine wp_s (i := .aload_n 3) (n := 1) (pc' := 107) (st' := [.ref 55]) rfl rfl ?_
                refine wq_gr (idx := 175) (a := 55 + 4) (pc' := 110) rfl rfl (ho_F (Or.inr (Or.inl rfl))) rfl rfl ?_
                refine wq_cs (Dq := (D + 4)) (r' := mm_r111) (as0 := [.ref (55 + 4)]) (rest := []) (ls' := [some (.ref (55 + 4)), none, none, none, none, none]) (pc' := 113) rfl rfl (by decide) rfl rfl rfl rfl rfl ?_
                refine jw_O_sum (X := X) (D := D + 4) (55 + 4) 55 3 8 (ha_F_3 (Or.inr (Or.inl rfl))) q7 (dz_pm (dz_bi H) (fun q13 H => ?_))
                show mm_Wp X (D + 5) mm_r82 113 [some (.ref 0), some (dz_I a1), some (dz_I a2), some (.ref 55)] [dz_I q13] (hz_0 q7) Q
                refine wq_ri rfl rfl ?_
                replace H := dz_sm H
                exact H
              · replace H := dz_if c12 H
                by_cases c14 : dz_c a2 = 4
                · replace H := dz_it c14 H
                  refine wq_ts (x' := dz_c a2) (tt := 114) rfl rfl (by rw [c14]; rfl) ?_
                  refine wp_s (i := .aload_n 3) (n := 1) (pc' := 115) (st' := [.ref 55]) rfl rfl ?_
                  refine wq_gi (idx := 214) (pc' := 118) rfl rfl (ho_F (Or.inr (Or.inl rfl))) rfl rfl ?_
                  refine wq_ri rfl rfl ?_
                  replace H := dz_sm H
                  exact H
                · replace H := dz_if c14 H
                  by_cases c15 : dz_c a2 = 5
                  · replace H := dz_it c15 H
                    refine wq_ts (x' := dz_c a2) (tt := 119) rfl rfl (by rw [c15]; rfl) ?_
                    refine wp_s (i := .aload_n 0) (n := 1) (pc' := 120) (st' := [.ref 0]) rfl rfl ?_
                    refine wq_gr (idx := 45) (a := 54) (pc' := 123) rfl rfl ho_O rfl rfl ?_
                    refine wq_cv (Dq := (D + 4)) (r' := mm_r7) (as0 := []) (rest := []) (ls' := [some (.ref 54), none, none, none]) (pc' := 126) rfl rfl rfl rfl ho_C rfl rfl rfl ?_
                    refine jw_C_loudestSecond (X := X) (D := D + 4) q7 (dz_pm (dz_bi H) (fun q16 H => ?_))
                    show mm_Wp X (D + 5) mm_r82 126 [some (.ref 0), some (dz_I a1), some (dz_I a2), some (.ref 55)] [dz_I q16] (hz_0 q7) Q
                    refine wq_ri rfl rfl ?_
                    replace H := dz_sm H
                    exact H
                  · replace H := dz_if c15 H
                    by_cases c17 : dz_c a2 = 6
                    · replace H := dz_it c17 H
                      refine wq_ts (x' := dz_c a2) (tt := 127) rfl rfl (by rw [c17]; rfl) ?_
                      refine wp_s (i := .aload_n 3) (n := 1) (pc' := 128) (st' := [.ref 55]) rfl rfl ?_
                      refine wp_s (i := .aload_n 0) (n := 1) (pc' := 129) (st' := [.ref 0, .ref 55]) rfl rfl ?_
                      obtain ⟨k18, H⟩ := dz_ck H
                      refine wq_gd (idx := 24) (pc' := 132) rfl rfl ho_O rfl rfl ?_
                      refine wq_cv (Dq := (D + 4)) (r' := mm_r24) (as0 := [.ref ((q7 0 2 0).toNat)]) (rest := []) (ls' := [some (.ref 55), some (.ref ((q7 0 2 0).toNat)), none, none]) (pc' := 135) rfl rfl rfl rfl (ho_F (Or.inr (Or.inl rfl))) rfl rfl rfl ?_
                      refine jw_F_brokenSpouts (X := X) (D := D + 3) 55 (Or.inr (Or.inl rfl)) ((q7 0 2 0).toNat) k18 q7 (dz_pm (dz_bi H) (fun q19 H => ?_))
                      show mm_Wp X (D + 5) mm_r82 135 [some (.ref 0), some (dz_I a1), some (dz_I a2), some (.ref 55)] [dz_I q19] (hz_0 q7) Q
                      refine wq_ri rfl rfl ?_
                      replace H := dz_sm H
                      exact H
                    · replace H := dz_if c17 H
                      refine wq_ts (x' := dz_c a2) (tt := 136) rfl rfl (by unfold mm_sw; rw [if_pos (by omega)]; rfl) ?_
                      refine wp_s (i := .aload_n 0) (n := 1) (pc' := 137) (st' := [.ref 0]) rfl rfl ?_
                      refine wq_cv (Dq := (D + 4)) (r' := mm_r112) (as0 := []) (rest := []) (ls' := [some (.ref 0)]) (pc' := 140) rfl rfl rfl rfl ho_O rfl rfl rfl ?_
                      refine jw_O_allSpouts (X := X) (D := D + 4) q7 (dz_pm (dz_bi H) (fun q20 H => ?_))
                      show mm_Wp X (D + 5) mm_r82 140 [some (.ref 0), some (dz_I a1), some (dz_I a2), some (.ref 55)] [dz_I q20] (hz_0 q7) Q
                      refine wp_s (i := .aload_n 3) (n := 1) (pc' := 141) (st' := [.ref 55, dz_I q20]) rfl rfl ?_
                      refine wq_gi (idx := 248) (pc' := 144) rfl rfl (ho_F (Or.inr (Or.inl rfl))) rfl rfl ?_
                      refine wp_s (i := .iconst (-1)) (n := 1) (pc' := 145) (st' := [dz_I (-1), dz_I (q7 55 9 0), dz_I q20]) rfl rfl ?_
                      refine wq_2 (i := .ixor) (z := dz_xo (q7 55 9 0) (-1)) (pc' := 146) rfl rfl (op_xor _ _) rfl ?_
                      refine wq_2 (i := .iand) (z := dz_an q20 (dz_xo (q7 55 9 0) (-1))) (pc' := 147) rfl rfl (op_and _ _) rfl ?_
                      refine wq_ri rfl rfl ?_
                      replace H := dz_sm H
                      exact H
      · replace H := dz_if c4 H
        refine wp_s (i := .iconst (-1)) (n := 1) (pc' := 19) (st' := [dz_I (-1)]) rfl rfl ?_
        refine wq_ri rfl rfl ?_
        replace H := dz_sm H
        exact H
-- 83
def jf_O_tune (a1 : Int) (Z : dz_Z) : Option (Int) := if dz_c a1 < 0 then (some (-1)) else (if hz_isS (Z 0 3 0).toNat then if dz_c (Z ((Z 0 3 0).toNat) 6 0) ≤ dz_c a1 then (some (-1)) else (if 0 ≤ dz_c a1 ∧ dz_c a1 < 12 then some (Z ((Z 0 3 0).toNat) 5 (dz_c a1)) else none) else none)
set_option maxRecDepth 20000 in
theorem jw_O_tune {X : Option (List Int32)} {D : Nat} {Q : Option Value → mm_H → Prop} (a1 : Int) (Z : dz_Z) (H : dz_p (jf_O_tune a1 Z) (fun q => Q (some (dz_I q)) (hz_0 Z))) : mm_Wp X D mm_r83 0 [some (.ref 0), some (dz_I a1)] [] (hz_0 Z) Q := by
  unfold jf_O_tune at H
  refine wp_s (i := .iload_n 1) (n := 1) (pc' := 1) (st' := [dz_I a1]) rfl rfl ?_
  refine wq_if (p := dz_c a1 < 0) (tt := 27) (pc' := 4) rfl rfl (cz_lt rfl) rfl (fun c1 => ?_) (fun c1 => ?_)
  · replace H := dz_it c1 H
    refine wp_s (i := .iconst (-1)) (n := 1) (pc' := 28) (st' := [dz_I (-1)]) rfl rfl ?_
    refine wq_ri rfl rfl ?_
    replace H := dz_sm H
    exact H
  · replace H := dz_if c1 H
    refine wp_s (i := .iload_n 1) (n := 1) (pc' := 5) (st' := [dz_I a1]) rfl rfl ?_
    refine wp_s (i := .aload_n 0) (n := 1) (pc' := 6) (st' := [.ref 0, dz_I a1]) rfl rfl ?_
    obtain ⟨k2, H⟩ := dz_ck H
    refine wq_gd (idx := 31) (pc' := 9) rfl rfl ho_O rfl rfl ?_
    refine wq_gi (idx := 120) (pc' := 12) rfl rfl (ho_S k2) rfl rfl ?_
    refine wq_ic (p := dz_c (Z ((Z 0 3 0).toNat) 6 0) ≤ dz_c a1) (tt := 27) (pc' := 15) rfl rfl (cq_ge rfl rfl) rfl (fun c3 => ?_) (fun c3 => ?_)
    · replace H := dz_it c3 H
      refine wp_s (i := .iconst (-1)) (n := 1) (pc' := 28) (st' := [dz_I (-1)]) rfl rfl ?_
      refine wq_ri rfl rfl ?_
      replace H := dz_sm H
      exact H
    · replace H := dz_if c3 H
      refine wp_s (i := .aload_n 0) (n := 1) (pc' := 16) (st' := [.ref 0]) rfl rfl ?_
      refine wq_gd (idx := 31) (pc' := 19) rfl rfl ho_O rfl rfl ?_
      refine wq_gr (idx := 251) (a := (Z 0 3 0).toNat + 9) (pc' := 22) rfl rfl (ho_S k2) rfl rfl ?_
      refine wp_s (i := .iload_n 1) (n := 1) (pc' := 23) (st' := [dz_I a1, .ref ((Z 0 3 0).toNat + 9)]) rfl rfl ?_
      obtain ⟨k4, H⟩ := dz_ck H
      refine wq_ia (j' := dz_c a1) (pc' := 24) rfl (ha_S_5 k2) rfl k4.1 k4.2 rfl ?_
      refine wp_s (i := .goto 4) (n := 3) (pc' := 28) (st' := [dz_I (Z ((Z 0 3 0).toNat) 5 (dz_c a1))]) rfl rfl ?_
      refine wq_ri rfl rfl ?_
      replace H := dz_sm H
      exact H
-- 84
def jf_O_tells (a1 : Int) (a2 : Int) (Z : dz_Z) : Option (Int × dz_Z) := if dz_c a1 < 0 then (some ((-1), Z)) else (if hz_isS (Z 0 3 0).toNat then if dz_c (Z ((Z 0 3 0).toNat) 6 0) < dz_c a1 then (some ((-1), Z)) else (if dz_c a2 < 0 then (some ((-1), Z)) else (if dz_c a2 ≤ 255 then (if dz_c a1 < 12 then (if 0 ≤ dz_c a1 ∧ dz_c a1 < 12 then dz_a (dz_u Z ((Z 0 3 0).toNat) 5 (dz_c a1) a2) fun Z8 => if hz_isS (Z8 0 3 0).toNat then if dz_c a1 ≠ dz_c (Z8 ((Z8 0 3 0).toNat) 6 0) then (some (Z8 ((Z8 0 3 0).toNat) 6 0, Z8)) else (dz_a (dz_u Z8 ((Z8 0 3 0).toNat) 6 0 ((Z8 ((Z8 0 3 0).toNat) 6 0) + 1)) fun Z11 => if hz_isS (Z11 0 3 0).toNat then some (Z11 ((Z11 0 3 0).toNat) 6 0, Z11) else none) else none else none) else (some ((-3), Z))) else (some ((-1), Z)))) else none)
set_option maxRecDepth 20000 in
theorem jw_O_tells {X : Option (List Int32)} {D : Nat} {Q : Option Value → mm_H → Prop} (a1 : Int) (a2 : Int) (Z : dz_Z) (H : dz_p (jf_O_tells a1 a2 Z) (fun q => Q (some (dz_I q.1)) (hz_0 q.2))) : mm_Wp X D mm_r84 0 [some (.ref 0), some (dz_I a1), some (dz_I a2)] [] (hz_0 Z) Q := by
  unfold jf_O_tells at H
  refine wp_s (i := .iload_n 1) (n := 1) (pc' := 1) (st' := [dz_I a1]) rfl rfl ?_
  refine wq_if (p := dz_c a1 < 0) (tt := 26) (pc' := 4) rfl rfl (cz_lt rfl) rfl (fun c1 => ?_) (fun c1 => ?_)
  · replace H := dz_it c1 H
    refine wp_s (i := .iconst (-1)) (n := 1) (pc' := 27) (st' := [dz_I (-1)]) rfl rfl ?_
    refine wq_ri rfl rfl ?_
    replace H := dz_sm H
    exact H
  · replace H := dz_if c1 H
    refine wp_s (i := .iload_n 1) (n := 1) (pc' := 5) (st' := [dz_I a1]) rfl rfl ?_
    refine wp_s (i := .aload_n 0) (n := 1) (pc' := 6) (st' := [.ref 0, dz_I a1]) rfl rfl ?_
    obtain ⟨k2, H⟩ := dz_ck H
    refine wq_gd (idx := 31) (pc' := 9) rfl rfl ho_O rfl rfl ?_
    refine wq_gi (idx := 120) (pc' := 12) rfl rfl (ho_S k2) rfl rfl ?_
    refine wq_ic (p := dz_c (Z ((Z 0 3 0).toNat) 6 0) < dz_c a1) (tt := 26) (pc' := 15) rfl rfl (cq_gt rfl rfl) rfl (fun c3 => ?_) (fun c3 => ?_)
    · replace H := dz_it c3 H
      refine wp_s (i := .iconst (-1)) (n := 1) (pc' := 27) (st' := [dz_I (-1)]) rfl rfl ?_
      refine wq_ri rfl rfl ?_
      replace H := dz_sm H
      exact H
    · replace H := dz_if c3 H
      refine wp_s (i := .iload_n 2) (n := 1) (pc' := 16) (st' := [dz_I a2]) rfl rfl ?_
      refine wq_if (p := dz_c a2 < 0) (tt := 26) (pc' := 19) rfl rfl (cz_lt rfl) rfl (fun c4 => ?_) (fun c4 => ?_)
      · replace H := dz_it c4 H
        refine wp_s (i := .iconst (-1)) (n := 1) (pc' := 27) (st' := [dz_I (-1)]) rfl rfl ?_
        refine wq_ri rfl rfl ?_
        replace H := dz_sm H
        exact H
      · replace H := dz_if c4 H
        refine wp_s (i := .iload_n 2) (n := 1) (pc' := 20) (st' := [dz_I a2]) rfl rfl ?_
        refine wp_s (i := .sipush 255) (n := 3) (pc' := 23) (st' := [dz_I 255, dz_I a2]) rfl rfl ?_
        refine wq_ic (p := dz_c a2 ≤ 255) (tt := 28) (pc' := 26) rfl rfl (cq_le rfl dk_255) rfl (fun c5 => ?_) (fun c5 => ?_)
        · replace H := dz_it c5 H
          refine wp_s (i := .iload_n 1) (n := 1) (pc' := 29) (st' := [dz_I a1]) rfl rfl ?_
          refine wp_s (i := .bipush 12) (n := 2) (pc' := 31) (st' := [dz_I 12, dz_I a1]) rfl rfl ?_
          refine wq_ic (p := dz_c a1 < 12) (tt := 37) (pc' := 34) rfl rfl (cq_lt rfl dk_12) rfl (fun c6 => ?_) (fun c6 => ?_)
          · replace H := dz_it c6 H
            refine wp_s (i := .aload_n 0) (n := 1) (pc' := 38) (st' := [.ref 0]) rfl rfl ?_
            refine wq_gd (idx := 31) (pc' := 41) rfl rfl ho_O rfl rfl ?_
            refine wq_gr (idx := 251) (a := (Z 0 3 0).toNat + 9) (pc' := 44) rfl rfl (ho_S k2) rfl rfl ?_
            refine wp_s (i := .iload_n 1) (n := 1) (pc' := 45) (st' := [dz_I a1, .ref ((Z 0 3 0).toNat + 9)]) rfl rfl ?_
            refine wp_s (i := .iload_n 2) (n := 1) (pc' := 46) (st' := [dz_I a2, dz_I a1, .ref ((Z 0 3 0).toNat + 9)]) rfl rfl ?_
            obtain ⟨k7, H⟩ := dz_ck H
            refine wq_is (j' := dz_c a1) (x := a2) (pc' := 47) rfl (ha_S_5 k2) rfl k7.1 k7.2 rfl (fun Z8 eZ8 => ?_)
            replace H := dz_le H Z8 eZ8
            clear eZ8
            refine wp_s (i := .iload_n 1) (n := 1) (pc' := 48) (st' := [dz_I a1]) rfl rfl ?_
            refine wp_s (i := .aload_n 0) (n := 1) (pc' := 49) (st' := [.ref 0, dz_I a1]) rfl rfl ?_
            obtain ⟨k9, H⟩ := dz_ck H
            refine wq_gd (idx := 31) (pc' := 52) rfl rfl ho_O rfl rfl ?_
            refine wq_gi (idx := 120) (pc' := 55) rfl rfl (ho_S k9) rfl rfl ?_
            refine wq_ic (p := dz_c a1 ≠ dz_c (Z8 ((Z8 0 3 0).toNat) 6 0)) (tt := 71) (pc' := 58) rfl rfl (cq_ne rfl rfl) rfl (fun c10 => ?_) (fun c10 => ?_)
            · replace H := dz_it c10 H
              refine wp_s (i := .aload_n 0) (n := 1) (pc' := 72) (st' := [.ref 0]) rfl rfl ?_
              refine wq_gd (idx := 31) (pc' := 75) rfl rfl ho_O rfl rfl ?_
              refine wq_gi (idx := 120) (pc' := 78) rfl rfl (ho_S k9) rfl rfl ?_
              refine wq_ri rfl rfl ?_
              replace H := dz_sm H
              exact H
            · replace H := dz_if c10 H
              refine wp_s (i := .aload_n 0) (n := 1) (pc' := 59) (st' := [.ref 0]) rfl rfl ?_
              refine wq_gd (idx := 31) (pc' := 62) rfl rfl ho_O rfl rfl ?_
              refine wp_s (i := .dup) (n := 1) (pc' := 63) (st' := [.ref ((Z8 0 3 0).toNat), .ref ((Z8 0 3 0).toNat)]) rfl rfl ?_
              refine wq_gi (idx := 120) (pc' := 66) rfl rfl (ho_S k9) rfl rfl ?_
              refine wp_s (i := .iconst 1) (n := 1) (pc' := 67) (st' := [dz_I 1, dz_I (Z8 ((Z8 0 3 0).toNat) 6 0), .ref ((Z8 0 3 0).toNat)]) rfl rfl ?_
              refine wq_2 (i := .iadd) (z := (Z8 ((Z8 0 3 0).toNat) 6 0) + 1) (pc' := 68) rfl rfl (op_add _ _) rfl ?_
              refine wq_pi (idx := 120) (x := (Z8 ((Z8 0 3 0).toNat) 6 0) + 1) (pc' := 71) rfl rfl rfl (ho_S k9) rfl rfl rfl rfl (fun Z11 eZ11 => ?_)
              replace H := dz_le H Z11 eZ11
              clear eZ11
              refine wp_s (i := .aload_n 0) (n := 1) (pc' := 72) (st' := [.ref 0]) rfl rfl ?_
              obtain ⟨k12, H⟩ := dz_ck H
              refine wq_gd (idx := 31) (pc' := 75) rfl rfl ho_O rfl rfl ?_
              refine wq_gi (idx := 120) (pc' := 78) rfl rfl (ho_S k12) rfl rfl ?_
              refine wq_ri rfl rfl ?_
              replace H := dz_sm H
              exact H
          · replace H := dz_if c6 H
            refine wp_s (i := .bipush (-3)) (n := 2) (pc' := 36) (st' := [dz_I (-3)]) rfl rfl ?_
            refine wq_ri rfl rfl ?_
            replace H := dz_sm H
            exact H
        · replace H := dz_if c5 H
          refine wp_s (i := .iconst (-1)) (n := 1) (pc' := 27) (st' := [dz_I (-1)]) rfl rfl ?_
          refine wq_ri rfl rfl ?_
          replace H := dz_sm H
          exact H
