-- 68
def jf_O_fault (Z : dz_Z) : Option (Int) := some (Z 0 9 0)
set_option maxRecDepth 20000 in
theorem jw_O_fault {X : Option (List Int32)} {D : Nat} {Q : Option Value → mm_H → Prop} (Z : dz_Z) (H : dz_p (jf_O_fault Z) (fun q => Q (some (dz_I q)) (hz_0 Z))) : mm_Wp X D mm_r68 0 [some (.ref 0)] [] (hz_0 Z) Q := by
  unfold jf_O_fault at H
  refine wp_s (i := .aload_n 0) (n := 1) (pc' := 1) (st' := [.ref 0]) rfl rfl ?_
  refine wq_gi (idx := 90) (pc' := 4) rfl rfl ho_O rfl rfl ?_
  refine wq_ri rfl rfl ?_
  replace H := dz_sm H
  exact H
-- 69
def jf_O_rule (a1 : Int) (Z : dz_Z) : Option (Int) := if dz_c a1 = 0 then (if hz_isP (Z 0 2 0).toNat then some (Z ((Z 0 2 0).toNat) 0 0) else none) else (if dz_c a1 = 1 then (if hz_isP (Z 0 2 0).toNat then some (Z ((Z 0 2 0).toNat) 3 0) else none) else (if dz_c a1 = 2 then (if hz_isP (Z 0 2 0).toNat then some (Z ((Z 0 2 0).toNat) 6 0) else none) else (if dz_c a1 = 3 then (if hz_isP (Z 0 2 0).toNat then some (Z ((Z 0 2 0).toNat) 10 0) else none) else (if dz_c a1 = 4 then (if hz_isS (Z 0 3 0).toNat then some (Z ((Z 0 3 0).toNat) 6 0) else none) else (if dz_c a1 = 5 then (if hz_isP (Z 0 2 0).toNat then some (Z ((Z 0 2 0).toNat) 11 0) else none) else (if dz_c a1 = 6 then (if hz_isP (Z 0 2 0).toNat then some (Z ((Z 0 2 0).toNat) 15 0) else none) else (some (-1))))))))
set_option maxRecDepth 20000 in
theorem jw_O_rule {X : Option (List Int32)} {D : Nat} {Q : Option Value → mm_H → Prop} (a1 : Int) (Z : dz_Z) (H : dz_p (jf_O_rule a1 Z) (fun q => Q (some (dz_I q)) (hz_0 Z))) : mm_Wp X D mm_r69 0 [some (.ref 0), some (dz_I a1)] [] (hz_0 Z) Q := by
  unfold jf_O_rule at H
  refine wp_s (i := .iload_n 1) (n := 1) (pc' := 1) (st' := [dz_I a1]) rfl rfl ?_
  by_cases c1 : dz_c a1 = 0
  · replace H := dz_it c1 H
    refine wq_ts (x' := dz_c a1) (tt := 44) rfl rfl (by rw [c1]; rfl) ?_
    refine wp_s (i := .aload_n 0) (n := 1) (pc' := 45) (st' := [.ref 0]) rfl rfl ?_
    obtain ⟨k2, H⟩ := dz_ck H
    refine wq_gd (idx := 24) (pc' := 48) rfl rfl ho_O rfl rfl ?_
    refine wq_gi (idx := 108) (pc' := 51) rfl rfl (ho_P k2) rfl rfl ?_
    refine wq_ri rfl rfl ?_
    replace H := dz_sm H
    exact H
  · replace H := dz_if c1 H
    by_cases c3 : dz_c a1 = 1
    · replace H := dz_it c3 H
      refine wq_ts (x' := dz_c a1) (tt := 52) rfl rfl (by rw [c3]; rfl) ?_
      refine wp_s (i := .aload_n 0) (n := 1) (pc' := 53) (st' := [.ref 0]) rfl rfl ?_
      obtain ⟨k4, H⟩ := dz_ck H
      refine wq_gd (idx := 24) (pc' := 56) rfl rfl ho_O rfl rfl ?_
      refine wq_gi (idx := 111) (pc' := 59) rfl rfl (ho_P k4) rfl rfl ?_
      refine wq_ri rfl rfl ?_
      replace H := dz_sm H
      exact H
    · replace H := dz_if c3 H
      by_cases c5 : dz_c a1 = 2
      · replace H := dz_it c5 H
        refine wq_ts (x' := dz_c a1) (tt := 60) rfl rfl (by rw [c5]; rfl) ?_
        refine wp_s (i := .aload_n 0) (n := 1) (pc' := 61) (st' := [.ref 0]) rfl rfl ?_
        obtain ⟨k6, H⟩ := dz_ck H
        refine wq_gd (idx := 24) (pc' := 64) rfl rfl ho_O rfl rfl ?_
        refine wq_gi (idx := 114) (pc' := 67) rfl rfl (ho_P k6) rfl rfl ?_
        refine wq_ri rfl rfl ?_
        replace H := dz_sm H
        exact H
      · replace H := dz_if c5 H
        by_cases c7 : dz_c a1 = 3
        · replace H := dz_it c7 H
          refine wq_ts (x' := dz_c a1) (tt := 68) rfl rfl (by rw [c7]; rfl) ?_
          refine wp_s (i := .aload_n 0) (n := 1) (pc' := 69) (st' := [.ref 0]) rfl rfl ?_
          obtain ⟨k8, H⟩ := dz_ck H
          refine wq_gd (idx := 24) (pc' := 72) rfl rfl ho_O rfl rfl ?_
          refine wq_gi (idx := 117) (pc' := 75) rfl rfl (ho_P k8) rfl rfl ?_
          refine wq_ri rfl rfl ?_
          replace H := dz_sm H
          exact H
        · replace H := dz_if c7 H
          by_cases c9 : dz_c a1 = 4
          · replace H := dz_it c9 H
            refine wq_ts (x' := dz_c a1) (tt := 76) rfl rfl (by rw [c9]; rfl) ?_
            refine wp_s (i := .aload_n 0) (n := 1) (pc' := 77) (st' := [.ref 0]) rfl rfl ?_
            obtain ⟨k10, H⟩ := dz_ck H
            refine wq_gd (idx := 31) (pc' := 80) rfl rfl ho_O rfl rfl ?_
            refine wq_gi (idx := 120) (pc' := 83) rfl rfl (ho_S k10) rfl rfl ?_
            refine wq_ri rfl rfl ?_
            replace H := dz_sm H
            exact H
          · replace H := dz_if c9 H
            by_cases c11 : dz_c a1 = 5
            · replace H := dz_it c11 H
              refine wq_ts (x' := dz_c a1) (tt := 84) rfl rfl (by rw [c11]; rfl) ?_
              refine wp_s (i := .aload_n 0) (n := 1) (pc' := 85) (st' := [.ref 0]) rfl rfl ?_
              obtain ⟨k12, H⟩ := dz_ck H
              refine wq_gd (idx := 24) (pc' := 88) rfl rfl ho_O rfl rfl ?_
              refine wq_gi (idx := 123) (pc' := 91) rfl rfl (ho_P k12) rfl rfl ?_
              refine wq_ri rfl rfl ?_
              replace H := dz_sm H
              exact H
            · replace H := dz_if c11 H
              by_cases c13 : dz_c a1 = 6
              · replace H := dz_it c13 H
                refine wq_ts (x' := dz_c a1) (tt := 92) rfl rfl (by rw [c13]; rfl) ?_
                refine wp_s (i := .aload_n 0) (n := 1) (pc' := 93) (st' := [.ref 0]) rfl rfl ?_
                obtain ⟨k14, H⟩ := dz_ck H
                refine wq_gd (idx := 24) (pc' := 96) rfl rfl ho_O rfl rfl ?_
                refine wq_gi (idx := 126) (pc' := 99) rfl rfl (ho_P k14) rfl rfl ?_
                refine wq_ri rfl rfl ?_
                replace H := dz_sm H
                exact H
              · replace H := dz_if c13 H
                refine wq_ts (x' := dz_c a1) (tt := 100) rfl rfl (by unfold mm_sw; rw [if_pos (by omega)]; rfl) ?_
                refine wp_s (i := .iconst (-1)) (n := 1) (pc' := 101) (st' := [dz_I (-1)]) rfl rfl ?_
                refine wq_ri rfl rfl ?_
                replace H := dz_sm H
                exact H
-- 103
def jf_O_isGutter (a1 : Int) (Z : dz_Z) : Option (Bool) := if dz_c a1 < 0 then (some false) else (if hz_isP (Z 0 2 0).toNat then if dz_c (Z ((Z 0 2 0).toNat) 3 0) ≤ dz_c a1 then (some false) else (some true) else none)
set_option maxRecDepth 20000 in
theorem jw_O_isGutter {X : Option (List Int32)} {D : Nat} {Q : Option Value → mm_H → Prop} (a1 : Int) (Z : dz_Z) (H : dz_p (jf_O_isGutter a1 Z) (fun q => Q (some (dz_B q)) (hz_0 Z))) : mm_Wp X D mm_r103 0 [some (.ref 0), some (dz_I a1)] [] (hz_0 Z) Q := by
  unfold jf_O_isGutter at H
  refine wp_s (i := .iload_n 1) (n := 1) (pc' := 1) (st' := [dz_I a1]) rfl rfl ?_
  refine wq_if (p := dz_c a1 < 0) (tt := 19) (pc' := 4) rfl rfl (cz_lt rfl) rfl (fun c1 => ?_) (fun c1 => ?_)
  · replace H := dz_it c1 H
    refine wp_s (i := .iconst 0) (n := 1) (pc' := 20) (st' := [dz_I 0]) rfl rfl ?_
    refine wq_rf rfl rfl ?_
    replace H := dz_sm H
    exact H
  · replace H := dz_if c1 H
    refine wp_s (i := .iload_n 1) (n := 1) (pc' := 5) (st' := [dz_I a1]) rfl rfl ?_
    refine wp_s (i := .aload_n 0) (n := 1) (pc' := 6) (st' := [.ref 0, dz_I a1]) rfl rfl ?_
    obtain ⟨k2, H⟩ := dz_ck H
    refine wq_gd (idx := 24) (pc' := 9) rfl rfl ho_O rfl rfl ?_
    refine wq_gi (idx := 111) (pc' := 12) rfl rfl (ho_P k2) rfl rfl ?_
    refine wq_ic (p := dz_c (Z ((Z 0 2 0).toNat) 3 0) ≤ dz_c a1) (tt := 19) (pc' := 15) rfl rfl (cq_ge rfl rfl) rfl (fun c3 => ?_) (fun c3 => ?_)
    · replace H := dz_it c3 H
      refine wp_s (i := .iconst 0) (n := 1) (pc' := 20) (st' := [dz_I 0]) rfl rfl ?_
      refine wq_rf rfl rfl ?_
      replace H := dz_sm H
      exact H
    · replace H := dz_if c3 H
      refine wp_s (i := .iconst 1) (n := 1) (pc' := 16) (st' := [dz_I 1]) rfl rfl ?_
      refine wp_s (i := .goto 4) (n := 3) (pc' := 20) (st' := [dz_I 1]) rfl rfl ?_
      refine wq_rt rfl rfl ?_
      replace H := dz_sm H
      exact H
-- 70
def jf_O_gutter (a1 : Int) (a2 : Int) (Z : dz_Z) : Option (Int) := Option.bind (jf_O_isGutter a1 Z) fun q1 => if q1 = true then (if dz_c a2 = 0 then (if hz_isP (Z 0 2 0).toNat then if 0 ≤ dz_c a1 ∧ dz_c a1 < 5 then some (Z ((Z 0 2 0).toNat) 4 (dz_c a1)) else none else none) else (if dz_c a2 = 1 then (if hz_isP (Z 0 2 0).toNat then if 0 ≤ dz_c a1 ∧ dz_c a1 < 5 then some (Z ((Z 0 2 0).toNat) 5 (dz_c a1)) else none else none) else (if dz_c a2 = 2 then (if hz_isS (Z 0 3 0).toNat then if 0 ≤ dz_c a1 ∧ dz_c a1 < 5 then some (Z ((Z 0 3 0).toNat) 0 (dz_c a1)) else none else none) else (if dz_c a2 = 3 then (if hz_isS (Z 0 3 0).toNat then if 0 ≤ dz_c a1 ∧ dz_c a1 < 5 then some (Z ((Z 0 3 0).toNat) 1 (dz_c a1)) else none else none) else (some (-1)))))) else (some (-1))
set_option maxRecDepth 20000 in
theorem jw_O_gutter {X : Option (List Int32)} {D : Nat} {Q : Option Value → mm_H → Prop} (a1 : Int) (a2 : Int) (Z : dz_Z) (H : dz_p (jf_O_gutter a1 a2 Z) (fun q => Q (some (dz_I q)) (hz_0 Z))) : mm_Wp X (D + 1) mm_r70 0 [some (.ref 0), some (dz_I a1), some (dz_I a2)] [] (hz_0 Z) Q := by
  unfold jf_O_gutter at H
  refine wp_s (i := .aload_n 0) (n := 1) (pc' := 1) (st' := [.ref 0]) rfl rfl ?_
  refine wp_s (i := .iload_n 1) (n := 1) (pc' := 2) (st' := [dz_I a1, .ref 0]) rfl rfl ?_
  refine wq_cv (Dq := D) (r' := mm_r103) (as0 := [dz_I a1]) (rest := []) (ls' := [some (.ref 0), some (dz_I a1)]) (pc' := 5) rfl rfl rfl rfl ho_O rfl rfl rfl ?_
  refine jw_O_isGutter (X := X) (D := D + 0) a1 Z (dz_pm (dz_bi H) (fun q1 H => ?_))
  show mm_Wp X (D + 1) mm_r70 5 [some (.ref 0), some (dz_I a1), some (dz_I a2)] [dz_B q1] (hz_0 Z) Q
  refine wq_if (p := q1 = true) (tt := 10) (pc' := 8) rfl rfl (cb_ne) rfl (fun c2 => ?_) (fun c2 => ?_)
  · replace H := dz_it c2 H
    refine wp_s (i := .iload_n 2) (n := 1) (pc' := 11) (st' := [dz_I a2]) rfl rfl ?_
    by_cases c3 : dz_c a2 = 0
    · replace H := dz_it c3 H
      refine wq_ts (x' := dz_c a2) (tt := 40) rfl rfl (by rw [c3]; rfl) ?_
      refine wp_s (i := .aload_n 0) (n := 1) (pc' := 41) (st' := [.ref 0]) rfl rfl ?_
      obtain ⟨k4, H⟩ := dz_ck H
      refine wq_gd (idx := 24) (pc' := 44) rfl rfl ho_O rfl rfl ?_
      refine wq_gr (idx := 133) (a := (Z 0 2 0).toNat + 3) (pc' := 47) rfl rfl (ho_P k4) rfl rfl ?_
      refine wp_s (i := .iload_n 1) (n := 1) (pc' := 48) (st' := [dz_I a1, .ref ((Z 0 2 0).toNat + 3)]) rfl rfl ?_
      obtain ⟨k5, H⟩ := dz_ck H
      refine wq_ia (j' := dz_c a1) (pc' := 49) rfl (ha_P_4 k4) rfl k5.1 k5.2 rfl ?_
      refine wq_ri rfl rfl ?_
      replace H := dz_sm H
      exact H
    · replace H := dz_if c3 H
      by_cases c6 : dz_c a2 = 1
      · replace H := dz_it c6 H
        refine wq_ts (x' := dz_c a2) (tt := 50) rfl rfl (by rw [c6]; rfl) ?_
        refine wp_s (i := .aload_n 0) (n := 1) (pc' := 51) (st' := [.ref 0]) rfl rfl ?_
        obtain ⟨k7, H⟩ := dz_ck H
        refine wq_gd (idx := 24) (pc' := 54) rfl rfl ho_O rfl rfl ?_
        refine wq_gr (idx := 137) (a := (Z 0 2 0).toNat + 4) (pc' := 57) rfl rfl (ho_P k7) rfl rfl ?_
        refine wp_s (i := .iload_n 1) (n := 1) (pc' := 58) (st' := [dz_I a1, .ref ((Z 0 2 0).toNat + 4)]) rfl rfl ?_
        obtain ⟨k8, H⟩ := dz_ck H
        refine wq_ia (j' := dz_c a1) (pc' := 59) rfl (ha_P_5 k7) rfl k8.1 k8.2 rfl ?_
        refine wq_ri rfl rfl ?_
        replace H := dz_sm H
        exact H
      · replace H := dz_if c6 H
        by_cases c9 : dz_c a2 = 2
        · replace H := dz_it c9 H
          refine wq_ts (x' := dz_c a2) (tt := 60) rfl rfl (by rw [c9]; rfl) ?_
          refine wp_s (i := .aload_n 0) (n := 1) (pc' := 61) (st' := [.ref 0]) rfl rfl ?_
          obtain ⟨k10, H⟩ := dz_ck H
          refine wq_gd (idx := 31) (pc' := 64) rfl rfl ho_O rfl rfl ?_
          refine wq_gr (idx := 140) (a := (Z 0 3 0).toNat + 1) (pc' := 67) rfl rfl (ho_S k10) rfl rfl ?_
          refine wp_s (i := .iload_n 1) (n := 1) (pc' := 68) (st' := [dz_I a1, .ref ((Z 0 3 0).toNat + 1)]) rfl rfl ?_
          obtain ⟨k11, H⟩ := dz_ck H
          refine wq_ia (j' := dz_c a1) (pc' := 69) rfl (ha_S_0 k10) rfl k11.1 k11.2 rfl ?_
          refine wq_ri rfl rfl ?_
          replace H := dz_sm H
          exact H
        · replace H := dz_if c9 H
          by_cases c12 : dz_c a2 = 3
          · replace H := dz_it c12 H
            refine wq_ts (x' := dz_c a2) (tt := 70) rfl rfl (by rw [c12]; rfl) ?_
            refine wp_s (i := .aload_n 0) (n := 1) (pc' := 71) (st' := [.ref 0]) rfl rfl ?_
            obtain ⟨k13, H⟩ := dz_ck H
            refine wq_gd (idx := 31) (pc' := 74) rfl rfl ho_O rfl rfl ?_
            refine wq_gr (idx := 143) (a := (Z 0 3 0).toNat + 2) (pc' := 77) rfl rfl (ho_S k13) rfl rfl ?_
            refine wp_s (i := .iload_n 1) (n := 1) (pc' := 78) (st' := [dz_I a1, .ref ((Z 0 3 0).toNat + 2)]) rfl rfl ?_
            obtain ⟨k14, H⟩ := dz_ck H
            refine wq_ia (j' := dz_c a1) (pc' := 79) rfl (ha_S_1 k13) rfl k14.1 k14.2 rfl ?_
            refine wq_ri rfl rfl ?_
            replace H := dz_sm H
            exact H
          · replace H := dz_if c12 H
            refine wq_ts (x' := dz_c a2) (tt := 80) rfl rfl (by unfold mm_sw; rw [if_pos (by omega)]; rfl) ?_
            refine wp_s (i := .iconst (-1)) (n := 1) (pc' := 81) (st' := [dz_I (-1)]) rfl rfl ?_
            refine wq_ri rfl rfl ?_
            replace H := dz_sm H
            exact H
  · replace H := dz_if c2 H
    refine wp_s (i := .iconst (-1)) (n := 1) (pc' := 9) (st' := [dz_I (-1)]) rfl rfl ?_
    refine wq_ri rfl rfl ?_
    replace H := dz_sm H
    exact H
-- 104
def jf_O_isSpout (a1 : Int) (Z : dz_Z) : Option (Bool) := if dz_c a1 < 0 then (some false) else (if hz_isP (Z 0 2 0).toNat then if dz_c (Z ((Z 0 2 0).toNat) 6 0) ≤ dz_c a1 then (some false) else (some true) else none)
set_option maxRecDepth 20000 in
theorem jw_O_isSpout {X : Option (List Int32)} {D : Nat} {Q : Option Value → mm_H → Prop} (a1 : Int) (Z : dz_Z) (H : dz_p (jf_O_isSpout a1 Z) (fun q => Q (some (dz_B q)) (hz_0 Z))) : mm_Wp X D mm_r104 0 [some (.ref 0), some (dz_I a1)] [] (hz_0 Z) Q := by
  unfold jf_O_isSpout at H
  refine wp_s (i := .iload_n 1) (n := 1) (pc' := 1) (st' := [dz_I a1]) rfl rfl ?_
  refine wq_if (p := dz_c a1 < 0) (tt := 19) (pc' := 4) rfl rfl (cz_lt rfl) rfl (fun c1 => ?_) (fun c1 => ?_)
  · replace H := dz_it c1 H
    refine wp_s (i := .iconst 0) (n := 1) (pc' := 20) (st' := [dz_I 0]) rfl rfl ?_
    refine wq_rf rfl rfl ?_
    replace H := dz_sm H
    exact H
  · replace H := dz_if c1 H
    refine wp_s (i := .iload_n 1) (n := 1) (pc' := 5) (st' := [dz_I a1]) rfl rfl ?_
    refine wp_s (i := .aload_n 0) (n := 1) (pc' := 6) (st' := [.ref 0, dz_I a1]) rfl rfl ?_
    obtain ⟨k2, H⟩ := dz_ck H
    refine wq_gd (idx := 24) (pc' := 9) rfl rfl ho_O rfl rfl ?_
    refine wq_gi (idx := 114) (pc' := 12) rfl rfl (ho_P k2) rfl rfl ?_
    refine wq_ic (p := dz_c (Z ((Z 0 2 0).toNat) 6 0) ≤ dz_c a1) (tt := 19) (pc' := 15) rfl rfl (cq_ge rfl rfl) rfl (fun c3 => ?_) (fun c3 => ?_)
    · replace H := dz_it c3 H
      refine wp_s (i := .iconst 0) (n := 1) (pc' := 20) (st' := [dz_I 0]) rfl rfl ?_
      refine wq_rf rfl rfl ?_
      replace H := dz_sm H
      exact H
    · replace H := dz_if c3 H
      refine wp_s (i := .iconst 1) (n := 1) (pc' := 16) (st' := [dz_I 1]) rfl rfl ?_
      refine wp_s (i := .goto 4) (n := 3) (pc' := 20) (st' := [dz_I 1]) rfl rfl ?_
      refine wq_rt rfl rfl ?_
      replace H := dz_sm H
      exact H
-- 71
def jf_O_spout (a1 : Int) (a2 : Int) (Z : dz_Z) : Option (Int) := Option.bind (jf_O_isSpout a1 Z) fun q1 => if q1 = true then (if hz_isS (Z 0 3 0).toNat then if 0 ≤ dz_c a1 ∧ dz_c a1 < 8 then if dz_c a2 = 0 then (if hz_isP (Z 0 2 0).toNat then some (Z ((Z 0 2 0).toNat) 7 (dz_c a1)) else none) else (if dz_c a2 = 1 then (some (Z ((Z 0 3 0).toNat) 2 (dz_c a1))) else (if dz_c a2 = 2 then (Option.bind (jf_O_hasSize (Z ((Z 0 3 0).toNat) 2 (dz_c a1))) fun q9 => if q9 = false then (some 0) else (if hz_isP (Z 0 2 0).toNat then some (Z ((Z 0 2 0).toNat) 8 (dz_c a1)) else none)) else (if dz_c a2 = 3 then (if dz_c (Z ((Z 0 3 0).toNat) 2 (dz_c a1)) ≠ 4 then (some (-4)) else (if hz_isP (Z 0 2 0).toNat then some (Z ((Z 0 2 0).toNat) 9 (dz_c a1)) else none)) else (if dz_c a2 = 4 then (some (Z 46 0 (dz_c a1))) else (if dz_c a2 = 5 then (some (dz_li (Z 46 2 (dz_c a1)))) else (if dz_c a2 = 6 then (if hz_isP (Z 0 2 0).toNat then Option.bind (jf_F_isBroken 46 ((Z 0 2 0).toNat) a1 Z) fun q19 => if q19 = false then (some 0) else (some 1) else none) else (if dz_c a2 = 7 then (some (Z 46 3 (dz_c a1))) else (some (-1))))))))) else none else none) else (some (-1))
set_option maxRecDepth 20000 in
theorem jw_O_spout {X : Option (List Int32)} {D : Nat} {Q : Option Value → mm_H → Prop} (a1 : Int) (a2 : Int) (Z : dz_Z) (H : dz_p (jf_O_spout a1 a2 Z) (fun q => Q (some (dz_I q)) (hz_0 Z))) : mm_Wp X (D + 1) mm_r71 0 [some (.ref 0), some (dz_I a1), some (dz_I a2), none] [] (hz_0 Z) Q := by
  unfold jf_O_spout at H
  refine wp_s (i := .aload_n 0) (n := 1) (pc' := 1) (st' := [.ref 0]) rfl rfl ?_
  refine wp_s (i := .iload_n 1) (n := 1) (pc' := 2) (st' := [dz_I a1, .ref 0]) rfl rfl ?_
  refine wq_cv (Dq := D) (r' := mm_r104) (as0 := [dz_I a1]) (rest := []) (ls' := [some (.ref 0), some (dz_I a1)]) (pc' := 5) rfl rfl rfl rfl ho_O rfl rfl rfl ?_
  refine jw_O_isSpout (X := X) (D := D + 0) a1 Z (dz_pm (dz_bi H) (fun q1 H => ?_))
  show mm_Wp X (D + 1) mm_r71 5 [some (.ref 0), some (dz_I a1), some (dz_I a2), none] [dz_B q1] (hz_0 Z) Q
  refine wq_if (p := q1 = true) (tt := 10) (pc' := 8) rfl rfl (cb_ne) rfl (fun c2 => ?_) (fun c2 => ?_)
  · replace H := dz_it c2 H
    refine wp_s (i := .aload_n 0) (n := 1) (pc' := 11) (st' := [.ref 0]) rfl rfl ?_
    obtain ⟨k3, H⟩ := dz_ck H
    refine wq_gd (idx := 31) (pc' := 14) rfl rfl ho_O rfl rfl ?_
    refine wq_gr (idx := 149) (a := (Z 0 3 0).toNat + 3) (pc' := 17) rfl rfl (ho_S k3) rfl rfl ?_
    refine wp_s (i := .iload_n 1) (n := 1) (pc' := 18) (st' := [dz_I a1, .ref ((Z 0 3 0).toNat + 3)]) rfl rfl ?_
    obtain ⟨k4, H⟩ := dz_ck H
    refine wq_ia (j' := dz_c a1) (pc' := 19) rfl (ha_S_2 k3) rfl k4.1 k4.2 rfl ?_
    refine wq_st (k := 3) (i := .istore_n 3) (n := 1) (ls' := [some (.ref 0), some (dz_I a1), some (dz_I a2), some (dz_I (Z ((Z 0 3 0).toNat) 2 (dz_c a1)))]) (pc' := 20) rfl rfl rfl rfl rfl ?_
    refine wp_s (i := .iload_n 2) (n := 1) (pc' := 21) (st' := [dz_I a2]) rfl rfl ?_
    by_cases c5 : dz_c a2 = 0
    · replace H := dz_it c5 H
      refine wq_ts (x' := dz_c a2) (tt := 68) rfl rfl (by rw [c5]; rfl) ?_
      refine wp_s (i := .aload_n 0) (n := 1) (pc' := 69) (st' := [.ref 0]) rfl rfl ?_
      obtain ⟨k6, H⟩ := dz_ck H
      refine wq_gd (idx := 24) (pc' := 72) rfl rfl ho_O rfl rfl ?_
      refine wq_gr (idx := 152) (a := (Z 0 2 0).toNat + 5) (pc' := 75) rfl rfl (ho_P k6) rfl rfl ?_
      refine wp_s (i := .iload_n 1) (n := 1) (pc' := 76) (st' := [dz_I a1, .ref ((Z 0 2 0).toNat + 5)]) rfl rfl ?_
      refine wq_ia (j' := dz_c a1) (pc' := 77) rfl (ha_P_7 k6) rfl k4.1 k4.2 rfl ?_
      refine wq_ri rfl rfl ?_
      replace H := dz_sm H
      exact H
    · replace H := dz_if c5 H
      by_cases c7 : dz_c a2 = 1
      · replace H := dz_it c7 H
        refine wq_ts (x' := dz_c a2) (tt := 78) rfl rfl (by rw [c7]; rfl) ?_
        refine wp_s (i := .iload_n 3) (n := 1) (pc' := 79) (st' := [dz_I (Z ((Z 0 3 0).toNat) 2 (dz_c a1))]) rfl rfl ?_
        refine wq_ri rfl rfl ?_
        replace H := dz_sm H
        exact H
      · replace H := dz_if c7 H
        by_cases c8 : dz_c a2 = 2
        · replace H := dz_it c8 H
          refine wq_ts (x' := dz_c a2) (tt := 80) rfl rfl (by rw [c8]; rfl) ?_
          refine wp_s (i := .iload_n 3) (n := 1) (pc' := 81) (st' := [dz_I (Z ((Z 0 3 0).toNat) 2 (dz_c a1))]) rfl rfl ?_
          refine wq_cs (Dq := D) (r' := mm_r110) (as0 := [dz_I (Z ((Z 0 3 0).toNat) 2 (dz_c a1))]) (rest := []) (ls' := [some (dz_I (Z ((Z 0 3 0).toNat) 2 (dz_c a1)))]) (pc' := 84) rfl rfl (by decide) rfl rfl rfl rfl rfl ?_
          refine jw_O_hasSize (X := X) (D := D + 0) (Z ((Z 0 3 0).toNat) 2 (dz_c a1)) Z (dz_pm (dz_bi H) (fun q9 H => ?_))
          show mm_Wp X (D + 1) mm_r71 84 [some (.ref 0), some (dz_I a1), some (dz_I a2), some (dz_I (Z ((Z 0 3 0).toNat) 2 (dz_c a1)))] [dz_B q9] (hz_0 Z) Q
          refine wq_if (p := q9 = false) (tt := 99) (pc' := 87) rfl rfl (cb_eq) rfl (fun c10 => ?_) (fun c10 => ?_)
          · replace H := dz_it c10 H
            refine wp_s (i := .iconst 0) (n := 1) (pc' := 100) (st' := [dz_I 0]) rfl rfl ?_
            refine wq_ri rfl rfl ?_
            replace H := dz_sm H
            exact H
          · replace H := dz_if c10 H
            refine wp_s (i := .aload_n 0) (n := 1) (pc' := 88) (st' := [.ref 0]) rfl rfl ?_
            obtain ⟨k11, H⟩ := dz_ck H
            refine wq_gd (idx := 24) (pc' := 91) rfl rfl ho_O rfl rfl ?_
            refine wq_gr (idx := 158) (a := (Z 0 2 0).toNat + 6) (pc' := 94) rfl rfl (ho_P k11) rfl rfl ?_
            refine wp_s (i := .iload_n 1) (n := 1) (pc' := 95) (st' := [dz_I a1, .ref ((Z 0 2 0).toNat + 6)]) rfl rfl ?_
            refine wq_ia (j' := dz_c a1) (pc' := 96) rfl (ha_P_8 k11) rfl k4.1 k4.2 rfl ?_
            refine wp_s (i := .goto 4) (n := 3) (pc' := 100) (st' := [dz_I (Z ((Z 0 2 0).toNat) 8 (dz_c a1))]) rfl rfl ?_
            refine wq_ri rfl rfl ?_
            replace H := dz_sm H
            exact H
        · replace H := dz_if c8 H
          by_cases c12 : dz_c a2 = 3
          · replace H := dz_it c12 H
            refine wq_ts (x' := dz_c a2) (tt := 101) rfl rfl (by rw [c12]; rfl) ?_
            refine wp_s (i := .iload_n 3) (n := 1) (pc' := 102) (st' := [dz_I (Z ((Z 0 3 0).toNat) 2 (dz_c a1))]) rfl rfl ?_
            refine wp_s (i := .iconst 4) (n := 1) (pc' := 103) (st' := [dz_I 4, dz_I (Z ((Z 0 3 0).toNat) 2 (dz_c a1))]) rfl rfl ?_
            refine wq_ic (p := dz_c (Z ((Z 0 3 0).toNat) 2 (dz_c a1)) ≠ 4) (tt := 118) (pc' := 106) rfl rfl (cq_ne rfl dk_4) rfl (fun c13 => ?_) (fun c13 => ?_)
            · replace H := dz_it c13 H
              refine wp_s (i := .bipush (-4)) (n := 2) (pc' := 120) (st' := [dz_I (-4)]) rfl rfl ?_
              refine wq_ri rfl rfl ?_
              replace H := dz_sm H
              exact H
            · replace H := dz_if c13 H
              refine wp_s (i := .aload_n 0) (n := 1) (pc' := 107) (st' := [.ref 0]) rfl rfl ?_
              obtain ⟨k14, H⟩ := dz_ck H
              refine wq_gd (idx := 24) (pc' := 110) rfl rfl ho_O rfl rfl ?_
              refine wq_gr (idx := 161) (a := (Z 0 2 0).toNat + 7) (pc' := 113) rfl rfl (ho_P k14) rfl rfl ?_
              refine wp_s (i := .iload_n 1) (n := 1) (pc' := 114) (st' := [dz_I a1, .ref ((Z 0 2 0).toNat + 7)]) rfl rfl ?_
              refine wq_ia (j' := dz_c a1) (pc' := 115) rfl (ha_P_9 k14) rfl k4.1 k4.2 rfl ?_
              refine wp_s (i := .goto 5) (n := 3) (pc' := 120) (st' := [dz_I (Z ((Z 0 2 0).toNat) 9 (dz_c a1))]) rfl rfl ?_
              refine wq_ri rfl rfl ?_
              replace H := dz_sm H
              exact H
          · replace H := dz_if c12 H
            by_cases c15 : dz_c a2 = 4
            · replace H := dz_it c15 H
              refine wq_ts (x' := dz_c a2) (tt := 121) rfl rfl (by rw [c15]; rfl) ?_
              refine wp_s (i := .aload_n 0) (n := 1) (pc' := 122) (st' := [.ref 0]) rfl rfl ?_
              refine wq_gr (idx := 38) (a := 46) (pc' := 125) rfl rfl ho_O rfl rfl ?_
              refine wq_gr (idx := 164) (a := 46 + 1) (pc' := 128) rfl rfl (ho_F (Or.inl rfl)) rfl rfl ?_
              refine wp_s (i := .iload_n 1) (n := 1) (pc' := 129) (st' := [dz_I a1, .ref (46 + 1)]) rfl rfl ?_
              refine wq_ia (j' := dz_c a1) (pc' := 130) rfl (ha_F_0 (Or.inl rfl)) rfl k4.1 k4.2 rfl ?_
              refine wq_ri rfl rfl ?_
              replace H := dz_sm H
              exact H
            · replace H := dz_if c15 H
              by_cases c16 : dz_c a2 = 5
              · replace H := dz_it c16 H
                refine wq_ts (x' := dz_c a2) (tt := 131) rfl rfl (by rw [c16]; rfl) ?_
                refine wp_s (i := .aload_n 0) (n := 1) (pc' := 132) (st' := [.ref 0]) rfl rfl ?_
                refine wq_gr (idx := 38) (a := 46) (pc' := 135) rfl rfl ho_O rfl rfl ?_
                refine wq_gr (idx := 167) (a := 46 + 3) (pc' := 138) rfl rfl (ho_F (Or.inl rfl)) rfl rfl ?_
                refine wp_s (i := .iload_n 1) (n := 1) (pc' := 139) (st' := [dz_I a1, .ref (46 + 3)]) rfl rfl ?_
                refine wq_la (j' := dz_c a1) (pc' := 140) rfl (ha_F_2 (Or.inl rfl)) rfl k4.1 k4.2 rfl ?_
                refine wq_3 (i := .l2i) (v' := dz_I (dz_li (Z 46 2 (dz_c a1)))) (pc' := 141) rfl rfl (oq_l2i _) rfl ?_
                refine wq_ri rfl rfl ?_
                replace H := dz_sm H
                exact H
              · replace H := dz_if c16 H
                by_cases c17 : dz_c a2 = 6
                · replace H := dz_it c17 H
                  refine wq_ts (x' := dz_c a2) (tt := 142) rfl rfl (by rw [c17]; rfl) ?_
                  refine wp_s (i := .aload_n 0) (n := 1) (pc' := 143) (st' := [.ref 0]) rfl rfl ?_
                  refine wq_gr (idx := 38) (a := 46) (pc' := 146) rfl rfl ho_O rfl rfl ?_
                  refine wp_s (i := .aload_n 0) (n := 1) (pc' := 147) (st' := [.ref 0, .ref 46]) rfl rfl ?_
                  obtain ⟨k18, H⟩ := dz_ck H
                  refine wq_gd (idx := 24) (pc' := 150) rfl rfl ho_O rfl rfl ?_
                  refine wp_s (i := .iload_n 1) (n := 1) (pc' := 151) (st' := [dz_I a1, .ref ((Z 0 2 0).toNat), .ref 46]) rfl rfl ?_
                  refine wq_cv (Dq := D) (r' := mm_r23) (as0 := [.ref ((Z 0 2 0).toNat), dz_I a1]) (rest := []) (ls' := [some (.ref 46), some (.ref ((Z 0 2 0).toNat)), some (dz_I a1)]) (pc' := 154) rfl rfl rfl rfl (ho_F (Or.inl rfl)) rfl rfl rfl ?_
                  refine jw_F_isBroken (X := X) (D := D + 0) 46 (Or.inl rfl) ((Z 0 2 0).toNat) k18 a1 Z (dz_pm (dz_bi H) (fun q19 H => ?_))
                  show mm_Wp X (D + 1) mm_r71 154 [some (.ref 0), some (dz_I a1), some (dz_I a2), some (dz_I (Z ((Z 0 3 0).toNat) 2 (dz_c a1)))] [dz_B q19] (hz_0 Z) Q
                  refine wq_if (p := q19 = false) (tt := 161) (pc' := 157) rfl rfl (cb_eq) rfl (fun c20 => ?_) (fun c20 => ?_)
                  · replace H := dz_it c20 H
                    refine wp_s (i := .iconst 0) (n := 1) (pc' := 162) (st' := [dz_I 0]) rfl rfl ?_
                    refine wq_ri rfl rfl ?_
                    replace H := dz_sm H
                    exact H
                  · replace H := dz_if c20 H
                    refine wp_s (i := .iconst 1) (n := 1) (pc' := 158) (st' := [dz_I 1]) rfl rfl ?_
                    refine wp_s (i := .goto 4) (n := 3) (pc' := 162) (st' := [dz_I 1]) rfl rfl ?_
                    refine wq_ri rfl rfl ?_
                    replace H := dz_sm H
                    exact H
                · replace H := dz_if c17 H
                  by_cases c21 : dz_c a2 = 7
                  · replace H := dz_it c21 H
                    refine wq_ts (x' := dz_c a2) (tt := 163) rfl rfl (by rw [c21]; rfl) ?_
                    refine wp_s (i := .aload_n 0) (n := 1) (pc' := 164) (st' := [.ref 0]) rfl rfl ?_
                    refine wq_gr (idx := 38) (a := 46) (pc' := 167) rfl rfl ho_O rfl rfl ?_
                    refine wq_gr (idx := 175) (a := 46 + 4) (pc' := 170) rfl rfl (ho_F (Or.inl rfl)) rfl rfl ?_
                    refine wp_s (i := .iload_n 1) (n := 1) (pc' := 171) (st' := [dz_I a1, .ref (46 + 4)]) rfl rfl ?_
                    refine wq_ia (j' := dz_c a1) (pc' := 172) rfl (ha_F_3 (Or.inl rfl)) rfl k4.1 k4.2 rfl ?_
                    refine wq_ri rfl rfl ?_
                    replace H := dz_sm H
                    exact H
                  · replace H := dz_if c21 H
                    refine wq_ts (x' := dz_c a2) (tt := 173) rfl rfl (by unfold mm_sw; rw [if_pos (by omega)]; rfl) ?_
                    refine wp_s (i := .iconst (-1)) (n := 1) (pc' := 174) (st' := [dz_I (-1)]) rfl rfl ?_
                    refine wq_ri rfl rfl ?_
                    replace H := dz_sm H
                    exact H
  · replace H := dz_if c2 H
    refine wp_s (i := .iconst (-1)) (n := 1) (pc' := 9) (st' := [dz_I (-1)]) rfl rfl ?_
    refine wq_ri rfl rfl ?_
    replace H := dz_sm H
    exact H
-- 72
def jf_O_peg (a1 : Int) (a2 : Int) (Z : dz_Z) : Option (Int × dz_Z) := Option.bind (jf_O_isGutter a1 Z) fun q1 => if q1 = false then (some ((-1), Z)) else (if dz_c a2 < 0 then (some ((-1), Z)) else (if dz_c a2 ≤ 2 then (if hz_isS (Z 0 3 0).toNat then if 0 ≤ dz_c a1 ∧ dz_c a1 < 5 then dz_a (dz_u Z ((Z 0 3 0).toNat) 0 (dz_c a1) a2) fun Z7 => some (Z ((Z 0 3 0).toNat) 0 (dz_c a1), Z7) else none else none) else (some ((-1), Z))))
set_option maxRecDepth 20000 in
theorem jw_O_peg {X : Option (List Int32)} {D : Nat} {Q : Option Value → mm_H → Prop} (a1 : Int) (a2 : Int) (Z : dz_Z) (H : dz_p (jf_O_peg a1 a2 Z) (fun q => Q (some (dz_I q.1)) (hz_0 q.2))) : mm_Wp X (D + 1) mm_r72 0 [some (.ref 0), some (dz_I a1), some (dz_I a2), none] [] (hz_0 Z) Q := by
  unfold jf_O_peg at H
  refine wp_s (i := .aload_n 0) (n := 1) (pc' := 1) (st' := [.ref 0]) rfl rfl ?_
  refine wp_s (i := .iload_n 1) (n := 1) (pc' := 2) (st' := [dz_I a1, .ref 0]) rfl rfl ?_
  refine wq_cv (Dq := D) (r' := mm_r103) (as0 := [dz_I a1]) (rest := []) (ls' := [some (.ref 0), some (dz_I a1)]) (pc' := 5) rfl rfl rfl rfl ho_O rfl rfl rfl ?_
  refine jw_O_isGutter (X := X) (D := D + 0) a1 Z (dz_pm (dz_bi H) (fun q1 H => ?_))
  show mm_Wp X (D + 1) mm_r72 5 [some (.ref 0), some (dz_I a1), some (dz_I a2), none] [dz_B q1] (hz_0 Z) Q
  refine wq_if (p := q1 = false) (tt := 17) (pc' := 8) rfl rfl (cb_eq) rfl (fun c2 => ?_) (fun c2 => ?_)
  · replace H := dz_it c2 H
    refine wp_s (i := .iconst (-1)) (n := 1) (pc' := 18) (st' := [dz_I (-1)]) rfl rfl ?_
    refine wq_ri rfl rfl ?_
    replace H := dz_sm H
    exact H
  · replace H := dz_if c2 H
    refine wp_s (i := .iload_n 2) (n := 1) (pc' := 9) (st' := [dz_I a2]) rfl rfl ?_
    refine wq_if (p := dz_c a2 < 0) (tt := 17) (pc' := 12) rfl rfl (cz_lt rfl) rfl (fun c3 => ?_) (fun c3 => ?_)
    · replace H := dz_it c3 H
      refine wp_s (i := .iconst (-1)) (n := 1) (pc' := 18) (st' := [dz_I (-1)]) rfl rfl ?_
      refine wq_ri rfl rfl ?_
      replace H := dz_sm H
      exact H
    · replace H := dz_if c3 H
      refine wp_s (i := .iload_n 2) (n := 1) (pc' := 13) (st' := [dz_I a2]) rfl rfl ?_
      refine wp_s (i := .iconst 2) (n := 1) (pc' := 14) (st' := [dz_I 2, dz_I a2]) rfl rfl ?_
      refine wq_ic (p := dz_c a2 ≤ 2) (tt := 19) (pc' := 17) rfl rfl (cq_le rfl dk_2) rfl (fun c4 => ?_) (fun c4 => ?_)
      · replace H := dz_it c4 H
        refine wp_s (i := .aload_n 0) (n := 1) (pc' := 20) (st' := [.ref 0]) rfl rfl ?_
        obtain ⟨k5, H⟩ := dz_ck H
        refine wq_gd (idx := 31) (pc' := 23) rfl rfl ho_O rfl rfl ?_
        refine wq_gr (idx := 140) (a := (Z 0 3 0).toNat + 1) (pc' := 26) rfl rfl (ho_S k5) rfl rfl ?_
        refine wp_s (i := .iload_n 1) (n := 1) (pc' := 27) (st' := [dz_I a1, .ref ((Z 0 3 0).toNat + 1)]) rfl rfl ?_
        obtain ⟨k6, H⟩ := dz_ck H
        refine wq_ia (j' := dz_c a1) (pc' := 28) rfl (ha_S_0 k5) rfl k6.1 k6.2 rfl ?_
        refine wq_st (k := 3) (i := .istore_n 3) (n := 1) (ls' := [some (.ref 0), some (dz_I a1), some (dz_I a2), some (dz_I (Z ((Z 0 3 0).toNat) 0 (dz_c a1)))]) (pc' := 29) rfl rfl rfl rfl rfl ?_
        refine wp_s (i := .aload_n 0) (n := 1) (pc' := 30) (st' := [.ref 0]) rfl rfl ?_
        refine wq_gd (idx := 31) (pc' := 33) rfl rfl ho_O rfl rfl ?_
        refine wq_gr (idx := 140) (a := (Z 0 3 0).toNat + 1) (pc' := 36) rfl rfl (ho_S k5) rfl rfl ?_
        refine wp_s (i := .iload_n 1) (n := 1) (pc' := 37) (st' := [dz_I a1, .ref ((Z 0 3 0).toNat + 1)]) rfl rfl ?_
        refine wp_s (i := .iload_n 2) (n := 1) (pc' := 38) (st' := [dz_I a2, dz_I a1, .ref ((Z 0 3 0).toNat + 1)]) rfl rfl ?_
        refine wq_is (j' := dz_c a1) (x := a2) (pc' := 39) rfl (ha_S_0 k5) rfl k6.1 k6.2 rfl (fun Z7 eZ7 => ?_)
        replace H := dz_le H Z7 eZ7
        clear eZ7
        refine wp_s (i := .iload_n 3) (n := 1) (pc' := 40) (st' := [dz_I (Z ((Z 0 3 0).toNat) 0 (dz_c a1))]) rfl rfl ?_
        refine wq_ri rfl rfl ?_
        replace H := dz_sm H
        exact H
      · replace H := dz_if c4 H
        refine wp_s (i := .iconst (-1)) (n := 1) (pc' := 18) (st' := [dz_I (-1)]) rfl rfl ?_
        refine wq_ri rfl rfl ?_
        replace H := dz_sm H
        exact H
-- 73
def jf_O_block (a1 : Int) (a2 : Int) (Z : dz_Z) : Option (Int × dz_Z) := Option.bind (jf_O_isGutter a1 Z) fun q1 => if q1 = true then (if hz_isS (Z 0 3 0).toNat then if 0 ≤ dz_c a1 ∧ dz_c a1 < 5 then if dz_c a2 = 0 then (dz_a (dz_u Z ((Z 0 3 0).toNat) 1 (dz_c a1) 0) fun Z6 => some (Z ((Z 0 3 0).toNat) 1 (dz_c a1), Z6)) else (dz_a (dz_u Z ((Z 0 3 0).toNat) 1 (dz_c a1) 1) fun Z7 => some (Z ((Z 0 3 0).toNat) 1 (dz_c a1), Z7)) else none else none) else (some ((-1), Z))
set_option maxRecDepth 20000 in
theorem jw_O_block {X : Option (List Int32)} {D : Nat} {Q : Option Value → mm_H → Prop} (a1 : Int) (a2 : Int) (Z : dz_Z) (H : dz_p (jf_O_block a1 a2 Z) (fun q => Q (some (dz_I q.1)) (hz_0 q.2))) : mm_Wp X (D + 1) mm_r73 0 [some (.ref 0), some (dz_I a1), some (dz_I a2), none] [] (hz_0 Z) Q := by
  unfold jf_O_block at H
  refine wp_s (i := .aload_n 0) (n := 1) (pc' := 1) (st' := [.ref 0]) rfl rfl ?_
  refine wp_s (i := .iload_n 1) (n := 1) (pc' := 2) (st' := [dz_I a1, .ref 0]) rfl rfl ?_
  refine wq_cv (Dq := D) (r' := mm_r103) (as0 := [dz_I a1]) (rest := []) (ls' := [some (.ref 0), some (dz_I a1)]) (pc' := 5) rfl rfl rfl rfl ho_O rfl rfl rfl ?_
  refine jw_O_isGutter (X := X) (D := D + 0) a1 Z (dz_pm (dz_bi H) (fun q1 H => ?_))
  show mm_Wp X (D + 1) mm_r73 5 [some (.ref 0), some (dz_I a1), some (dz_I a2), none] [dz_B q1] (hz_0 Z) Q
  refine wq_if (p := q1 = true) (tt := 10) (pc' := 8) rfl rfl (cb_ne) rfl (fun c2 => ?_) (fun c2 => ?_)
  · replace H := dz_it c2 H
    refine wp_s (i := .aload_n 0) (n := 1) (pc' := 11) (st' := [.ref 0]) rfl rfl ?_
    obtain ⟨k3, H⟩ := dz_ck H
    refine wq_gd (idx := 31) (pc' := 14) rfl rfl ho_O rfl rfl ?_
    refine wq_gr (idx := 143) (a := (Z 0 3 0).toNat + 2) (pc' := 17) rfl rfl (ho_S k3) rfl rfl ?_
    refine wp_s (i := .iload_n 1) (n := 1) (pc' := 18) (st' := [dz_I a1, .ref ((Z 0 3 0).toNat + 2)]) rfl rfl ?_
    obtain ⟨k4, H⟩ := dz_ck H
    refine wq_ia (j' := dz_c a1) (pc' := 19) rfl (ha_S_1 k3) rfl k4.1 k4.2 rfl ?_
    refine wq_st (k := 3) (i := .istore_n 3) (n := 1) (ls' := [some (.ref 0), some (dz_I a1), some (dz_I a2), some (dz_I (Z ((Z 0 3 0).toNat) 1 (dz_c a1)))]) (pc' := 20) rfl rfl rfl rfl rfl ?_
    refine wp_s (i := .aload_n 0) (n := 1) (pc' := 21) (st' := [.ref 0]) rfl rfl ?_
    refine wq_gd (idx := 31) (pc' := 24) rfl rfl ho_O rfl rfl ?_
    refine wq_gr (idx := 143) (a := (Z 0 3 0).toNat + 2) (pc' := 27) rfl rfl (ho_S k3) rfl rfl ?_
    refine wp_s (i := .iload_n 1) (n := 1) (pc' := 28) (st' := [dz_I a1, .ref ((Z 0 3 0).toNat + 2)]) rfl rfl ?_
    refine wp_s (i := .iload_n 2) (n := 1) (pc' := 29) (st' := [dz_I a2, dz_I a1, .ref ((Z 0 3 0).toNat + 2)]) rfl rfl ?_
    refine wq_if (p := dz_c a2 = 0) (tt := 36) (pc' := 32) rfl rfl (cz_eq rfl) rfl (fun c5 => ?_) (fun c5 => ?_)
    · replace H := dz_it c5 H
      refine wp_s (i := .iconst 0) (n := 1) (pc' := 37) (st' := [dz_I 0, dz_I a1, .ref ((Z 0 3 0).toNat + 2)]) rfl rfl ?_
      refine wq_is (j' := dz_c a1) (x := 0) (pc' := 38) rfl (ha_S_1 k3) rfl k4.1 k4.2 rfl (fun Z6 eZ6 => ?_)
      replace H := dz_le H Z6 eZ6
      clear eZ6
      refine wp_s (i := .iload_n 3) (n := 1) (pc' := 39) (st' := [dz_I (Z ((Z 0 3 0).toNat) 1 (dz_c a1))]) rfl rfl ?_
      refine wq_ri rfl rfl ?_
      replace H := dz_sm H
      exact H
    · replace H := dz_if c5 H
      refine wp_s (i := .iconst 1) (n := 1) (pc' := 33) (st' := [dz_I 1, dz_I a1, .ref ((Z 0 3 0).toNat + 2)]) rfl rfl ?_
      refine wp_s (i := .goto 4) (n := 3) (pc' := 37) (st' := [dz_I 1, dz_I a1, .ref ((Z 0 3 0).toNat + 2)]) rfl rfl ?_
      refine wq_is (j' := dz_c a1) (x := 1) (pc' := 38) rfl (ha_S_1 k3) rfl k4.1 k4.2 rfl (fun Z7 eZ7 => ?_)
      replace H := dz_le H Z7 eZ7
      clear eZ7
      refine wp_s (i := .iload_n 3) (n := 1) (pc' := 39) (st' := [dz_I (Z ((Z 0 3 0).toNat) 1 (dz_c a1))]) rfl rfl ?_
      refine wq_ri rfl rfl ?_
      replace H := dz_sm H
      exact H
  · replace H := dz_if c2 H
    refine wp_s (i := .iconst (-1)) (n := 1) (pc' := 9) (st' := [dz_I (-1)]) rfl rfl ?_
    refine wq_ri rfl rfl ?_
    replace H := dz_sm H
    exact H
-- 74
def jf_O_cup (a1 : Int) (a2 : Int) (Z : dz_Z) : Option (Int × dz_Z) := Option.bind (jf_O_isSpout a1 Z) fun q1 => if q1 = false then (some ((-1), Z)) else (if dz_c a2 = 0 then (if hz_isS (Z 0 3 0).toNat then if 0 ≤ dz_c a1 ∧ dz_c a1 < 8 then dz_a (dz_u Z ((Z 0 3 0).toNat) 2 (dz_c a1) a2) fun Z6 => Option.bind (jf_F_emptyCup 46 a1 Z6) fun q7 => some (Z ((Z 0 3 0).toNat) 2 (dz_c a1), q7) else none else none) else (if dz_c a2 = 5 then (if hz_isS (Z 0 3 0).toNat then if 0 ≤ dz_c a1 ∧ dz_c a1 < 8 then dz_a (dz_u Z ((Z 0 3 0).toNat) 2 (dz_c a1) a2) fun Z11 => Option.bind (jf_F_emptyCup 46 a1 Z11) fun q12 => some (Z ((Z 0 3 0).toNat) 2 (dz_c a1), q12) else none else none) else (some ((-1), Z))))
set_option maxRecDepth 20000 in
theorem jw_O_cup {X : Option (List Int32)} {D : Nat} {Q : Option Value → mm_H → Prop} (a1 : Int) (a2 : Int) (Z : dz_Z) (H : dz_p (jf_O_cup a1 a2 Z) (fun q => Q (some (dz_I q.1)) (hz_0 q.2))) : mm_Wp X (D + 1) mm_r74 0 [some (.ref 0), some (dz_I a1), some (dz_I a2), none] [] (hz_0 Z) Q := by
  unfold jf_O_cup at H
  refine wp_s (i := .aload_n 0) (n := 1) (pc' := 1) (st' := [.ref 0]) rfl rfl ?_
  refine wp_s (i := .iload_n 1) (n := 1) (pc' := 2) (st' := [dz_I a1, .ref 0]) rfl rfl ?_
  refine wq_cv (Dq := D) (r' := mm_r104) (as0 := [dz_I a1]) (rest := []) (ls' := [some (.ref 0), some (dz_I a1)]) (pc' := 5) rfl rfl rfl rfl ho_O rfl rfl rfl ?_
  refine jw_O_isSpout (X := X) (D := D + 0) a1 Z (dz_pm (dz_bi H) (fun q1 H => ?_))
  show mm_Wp X (D + 1) mm_r74 5 [some (.ref 0), some (dz_I a1), some (dz_I a2), none] [dz_B q1] (hz_0 Z) Q
  refine wq_if (p := q1 = false) (tt := 17) (pc' := 8) rfl rfl (cb_eq) rfl (fun c2 => ?_) (fun c2 => ?_)
  · replace H := dz_it c2 H
    refine wp_s (i := .iconst (-1)) (n := 1) (pc' := 18) (st' := [dz_I (-1)]) rfl rfl ?_
    refine wq_ri rfl rfl ?_
    replace H := dz_sm H
    exact H
  · replace H := dz_if c2 H
    refine wp_s (i := .iload_n 2) (n := 1) (pc' := 9) (st' := [dz_I a2]) rfl rfl ?_
    refine wq_if (p := dz_c a2 = 0) (tt := 19) (pc' := 12) rfl rfl (cz_eq rfl) rfl (fun c3 => ?_) (fun c3 => ?_)
    · replace H := dz_it c3 H
      refine wp_s (i := .aload_n 0) (n := 1) (pc' := 20) (st' := [.ref 0]) rfl rfl ?_
      obtain ⟨k4, H⟩ := dz_ck H
      refine wq_gd (idx := 31) (pc' := 23) rfl rfl ho_O rfl rfl ?_
      refine wq_gr (idx := 149) (a := (Z 0 3 0).toNat + 3) (pc' := 26) rfl rfl (ho_S k4) rfl rfl ?_
      refine wp_s (i := .iload_n 1) (n := 1) (pc' := 27) (st' := [dz_I a1, .ref ((Z 0 3 0).toNat + 3)]) rfl rfl ?_
      obtain ⟨k5, H⟩ := dz_ck H
      refine wq_ia (j' := dz_c a1) (pc' := 28) rfl (ha_S_2 k4) rfl k5.1 k5.2 rfl ?_
      refine wq_st (k := 3) (i := .istore_n 3) (n := 1) (ls' := [some (.ref 0), some (dz_I a1), some (dz_I a2), some (dz_I (Z ((Z 0 3 0).toNat) 2 (dz_c a1)))]) (pc' := 29) rfl rfl rfl rfl rfl ?_
      refine wp_s (i := .aload_n 0) (n := 1) (pc' := 30) (st' := [.ref 0]) rfl rfl ?_
      refine wq_gd (idx := 31) (pc' := 33) rfl rfl ho_O rfl rfl ?_
      refine wq_gr (idx := 149) (a := (Z 0 3 0).toNat + 3) (pc' := 36) rfl rfl (ho_S k4) rfl rfl ?_
      refine wp_s (i := .iload_n 1) (n := 1) (pc' := 37) (st' := [dz_I a1, .ref ((Z 0 3 0).toNat + 3)]) rfl rfl ?_
      refine wp_s (i := .iload_n 2) (n := 1) (pc' := 38) (st' := [dz_I a2, dz_I a1, .ref ((Z 0 3 0).toNat + 3)]) rfl rfl ?_
      refine wq_is (j' := dz_c a1) (x := a2) (pc' := 39) rfl (ha_S_2 k4) rfl k5.1 k5.2 rfl (fun Z6 eZ6 => ?_)
      replace H := dz_le H Z6 eZ6
      clear eZ6
      refine wp_s (i := .aload_n 0) (n := 1) (pc' := 40) (st' := [.ref 0]) rfl rfl ?_
      refine wq_gr (idx := 38) (a := 46) (pc' := 43) rfl rfl ho_O rfl rfl ?_
      refine wp_s (i := .iload_n 1) (n := 1) (pc' := 44) (st' := [dz_I a1, .ref 46]) rfl rfl ?_
      refine wq_cv (Dq := D) (r' := mm_r22) (as0 := [dz_I a1]) (rest := []) (ls' := [some (.ref 46), some (dz_I a1)]) (pc' := 47) rfl rfl rfl rfl (ho_F (Or.inl rfl)) rfl rfl rfl ?_
      refine jw_F_emptyCup (X := X) (D := D + 0) 46 (Or.inl rfl) a1 Z6 (dz_pm (dz_bi H) (fun q7 H => ?_))
      show mm_Wp X (D + 1) mm_r74 47 [some (.ref 0), some (dz_I a1), some (dz_I a2), some (dz_I (Z ((Z 0 3 0).toNat) 2 (dz_c a1)))] [] (hz_0 q7) Q
      refine wp_s (i := .iload_n 3) (n := 1) (pc' := 48) (st' := [dz_I (Z ((Z 0 3 0).toNat) 2 (dz_c a1))]) rfl rfl ?_
      refine wq_ri rfl rfl ?_
      replace H := dz_sm H
      exact H
    · replace H := dz_if c3 H
      refine wp_s (i := .iload_n 2) (n := 1) (pc' := 13) (st' := [dz_I a2]) rfl rfl ?_
      refine wp_s (i := .iconst 5) (n := 1) (pc' := 14) (st' := [dz_I 5, dz_I a2]) rfl rfl ?_
      refine wq_ic (p := dz_c a2 = 5) (tt := 19) (pc' := 17) rfl rfl (cq_eq rfl dk_5) rfl (fun c8 => ?_) (fun c8 => ?_)
      · replace H := dz_it c8 H
        refine wp_s (i := .aload_n 0) (n := 1) (pc' := 20) (st' := [.ref 0]) rfl rfl ?_
        obtain ⟨k9, H⟩ := dz_ck H
        refine wq_gd (idx := 31) (pc' := 23) rfl rfl ho_O rfl rfl ?_
        refine wq_gr (idx := 149) (a := (Z 0 3 0).toNat + 3) (pc' := 26) rfl rfl (ho_S k9) rfl rfl ?_
        refine wp_s (i := .iload_n 1) (n := 1) (pc' := 27) (st' := [dz_I a1, .ref ((Z 0 3 0).toNat + 3)]) rfl rfl ?_
        obtain ⟨k10, H⟩ := dz_ck H
        refine wq_ia (j' := dz_c a1) (pc' := 28) rfl (ha_S_2 k9) rfl k10.1 k10.2 rfl ?_
        refine wq_st (k := 3) (i := .istore_n 3) (n := 1) (ls' := [some (.ref 0), some (dz_I a1), some (dz_I a2), some (dz_I (Z ((Z 0 3 0).toNat) 2 (dz_c a1)))]) (pc' := 29) rfl rfl rfl rfl rfl ?_
        refine wp_s (i := .aload_n 0) (n := 1) (pc' := 30) (st' := [.ref 0]) rfl rfl ?_
        refine wq_gd (idx := 31) (pc' := 33) rfl rfl ho_O rfl rfl ?_
        refine wq_gr (idx := 149) (a := (Z 0 3 0).toNat + 3) (pc' := 36) rfl rfl (ho_S k9) rfl rfl ?_
        refine wp_s (i := .iload_n 1) (n := 1) (pc' := 37) (st' := [dz_I a1, .ref ((Z 0 3 0).toNat + 3)]) rfl rfl ?_
        refine wp_s (i := .iload_n 2) (n := 1) (pc' := 38) (st' := [dz_I a2, dz_I a1, .ref ((Z 0 3 0).toNat + 3)]) rfl rfl ?_
        refine wq_is (j' := dz_c a1) (x := a2) (pc' := 39) rfl (ha_S_2 k9) rfl k10.1 k10.2 rfl (fun Z11 eZ11 => ?_)
        replace H := dz_le H Z11 eZ11
        clear eZ11
        refine wp_s (i := .aload_n 0) (n := 1) (pc' := 40) (st' := [.ref 0]) rfl rfl ?_
        refine wq_gr (idx := 38) (a := 46) (pc' := 43) rfl rfl ho_O rfl rfl ?_
        refine wp_s (i := .iload_n 1) (n := 1) (pc' := 44) (st' := [dz_I a1, .ref 46]) rfl rfl ?_
        refine wq_cv (Dq := D) (r' := mm_r22) (as0 := [dz_I a1]) (rest := []) (ls' := [some (.ref 46), some (dz_I a1)]) (pc' := 47) rfl rfl rfl rfl (ho_F (Or.inl rfl)) rfl rfl rfl ?_
        refine jw_F_emptyCup (X := X) (D := D + 0) 46 (Or.inl rfl) a1 Z11 (dz_pm (dz_bi H) (fun q12 H => ?_))
        show mm_Wp X (D + 1) mm_r74 47 [some (.ref 0), some (dz_I a1), some (dz_I a2), some (dz_I (Z ((Z 0 3 0).toNat) 2 (dz_c a1)))] [] (hz_0 q12) Q
        refine wp_s (i := .iload_n 3) (n := 1) (pc' := 48) (st' := [dz_I (Z ((Z 0 3 0).toNat) 2 (dz_c a1))]) rfl rfl ?_
        refine wq_ri rfl rfl ?_
        replace H := dz_sm H
        exact H
      · replace H := dz_if c8 H
        refine wp_s (i := .iconst (-1)) (n := 1) (pc' := 18) (st' := [dz_I (-1)]) rfl rfl ?_
        refine wq_ri rfl rfl ?_
        replace H := dz_sm H
        exact H
-- 114
def jf_O_manySettings (Z : dz_Z) : Option (Int) := dz_lp (fun (s1 : Int × Int) => if hz_isP (Z 0 2 0).toNat then if dz_c (Z ((Z 0 2 0).toNat) 3 0) ≤ dz_c s1.2 then (some (Sum.inr s1.1)) else (some (Sum.inl (s1.1 * 3, s1.2 + 1))) else none) 5000 (1, 0)
set_option maxRecDepth 20000 in
theorem jw_O_manySettings {X : Option (List Int32)} {D : Nat} {Q : Option Value → mm_H → Prop} (Z : dz_Z) (H : dz_p (jf_O_manySettings Z) (fun q => Q (some (dz_I q)) (hz_0 Z))) : mm_Wp X D mm_r114 0 [some (.ref 0), none, none] [] (hz_0 Z) Q := by
  unfold jf_O_manySettings at H
  refine wp_s (i := .iconst 1) (n := 1) (pc' := 1) (st' := [dz_I 1]) rfl rfl ?_
  refine wq_st (k := 1) (i := .istore_n 1) (n := 1) (ls' := [some (.ref 0), some (dz_I 1), none]) (pc' := 2) rfl rfl rfl rfl rfl ?_
  refine wp_s (i := .iconst 0) (n := 1) (pc' := 3) (st' := [dz_I 0]) rfl rfl ?_
  refine wq_st (k := 2) (i := .istore_n 2) (n := 1) (ls' := [some (.ref 0), some (dz_I 1), some (dz_I 0)]) (pc' := 4) rfl rfl rfl rfl rfl ?_
  refine dz_lpi (P := fun (s1 : Int × Int) => mm_Wp X D mm_r114 4 [some (.ref 0), some (dz_I s1.1), some (dz_I s1.2)] [] (hz_0 Z) Q) (fun s1 H => ?_) 5000 (1, 0) H
  refine wp_s (i := .iload_n 2) (n := 1) (pc' := 5) (st' := [dz_I s1.2]) rfl rfl ?_
  refine wp_s (i := .aload_n 0) (n := 1) (pc' := 6) (st' := [.ref 0, dz_I s1.2]) rfl rfl ?_
  obtain ⟨k2, H⟩ := dz_ck H
  refine wq_gd (idx := 24) (pc' := 9) rfl rfl ho_O rfl rfl ?_
  refine wq_gi (idx := 111) (pc' := 12) rfl rfl (ho_P k2) rfl rfl ?_
  refine wq_ic (p := dz_c (Z ((Z 0 2 0).toNat) 3 0) ≤ dz_c s1.2) (tt := 25) (pc' := 15) rfl rfl (cq_ge rfl rfl) rfl (fun c3 => ?_) (fun c3 => ?_)
  · replace H := dz_it c3 H
    refine wp_s (i := .iload_n 1) (n := 1) (pc' := 26) (st' := [dz_I s1.1]) rfl rfl ?_
    refine wq_ri rfl rfl ?_
    replace H := dz_out H
    replace H := dz_sm H
    exact H
  · replace H := dz_if c3 H
    refine wp_s (i := .iload_n 1) (n := 1) (pc' := 16) (st' := [dz_I s1.1]) rfl rfl ?_
    refine wp_s (i := .iconst 3) (n := 1) (pc' := 17) (st' := [dz_I 3, dz_I s1.1]) rfl rfl ?_
    refine wq_2 (i := .imul) (z := s1.1 * 3) (pc' := 18) rfl rfl (op_mul _ _) rfl ?_
    refine wq_st (k := 1) (i := .istore_n 1) (n := 1) (ls' := [some (.ref 0), some (dz_I (s1.1 * 3)), some (dz_I s1.2)]) (pc' := 19) rfl rfl rfl rfl rfl ?_
    refine wq_inc (k := 2) (d := 1) (x := s1.2) (ls' := [some (.ref 0), some (dz_I (s1.1 * 3)), some (dz_I (s1.2 + 1))]) (pc' := 22) rfl rfl rfl rfl ?_
    refine wp_s (i := .goto (-18)) (n := 3) (pc' := 4) (st' := []) rfl rfl ?_
    replace H := dz_back H
    exact H
-- 75
def jf_O_settings (a1 : Int) (Z : dz_Z) : Option (Int × dz_Z) := if dz_c a1 < 0 then (some ((-1), Z)) else (Option.bind (jf_O_manySettings Z) fun q2 => if dz_c a1 < dz_c q2 then (if hz_isS (Z 0 3 0).toNat then if hz_isP (Z 0 2 0).toNat then Option.bind (jf_S_pegsAsNumber ((Z 0 3 0).toNat) (Z ((Z 0 2 0).toNat) 3 0) Z) fun q6 => Option.bind (jf_S_setPegs ((Z 0 3 0).toNat) (Z ((Z 0 2 0).toNat) 3 0) a1 Z) fun q7 => some (q6, q7) else none else none) else (some ((-1), Z)))
set_option maxRecDepth 20000 in
theorem jw_O_settings {X : Option (List Int32)} {D : Nat} {Q : Option Value → mm_H → Prop} (a1 : Int) (Z : dz_Z) (H : dz_p (jf_O_settings a1 Z) (fun q => Q (some (dz_I q.1)) (hz_0 q.2))) : mm_Wp X (D + 1) mm_r75 0 [some (.ref 0), some (dz_I a1), none] [] (hz_0 Z) Q := by
  unfold jf_O_settings at H
  refine wp_s (i := .iload_n 1) (n := 1) (pc' := 1) (st' := [dz_I a1]) rfl rfl ?_
  refine wq_if (p := dz_c a1 < 0) (tt := 12) (pc' := 4) rfl rfl (cz_lt rfl) rfl (fun c1 => ?_) (fun c1 => ?_)
  · replace H := dz_it c1 H
    refine wp_s (i := .iconst (-1)) (n := 1) (pc' := 13) (st' := [dz_I (-1)]) rfl rfl ?_
    refine wq_ri rfl rfl ?_
    replace H := dz_sm H
    exact H
  · replace H := dz_if c1 H
    refine wp_s (i := .iload_n 1) (n := 1) (pc' := 5) (st' := [dz_I a1]) rfl rfl ?_
    refine wp_s (i := .aload_n 0) (n := 1) (pc' := 6) (st' := [.ref 0, dz_I a1]) rfl rfl ?_
    refine wq_cv (Dq := D) (r' := mm_r114) (as0 := []) (rest := [dz_I a1]) (ls' := [some (.ref 0), none, none]) (pc' := 9) rfl rfl rfl rfl ho_O rfl rfl rfl ?_
    refine jw_O_manySettings (X := X) (D := D + 0) Z (dz_pm (dz_bi H) (fun q2 H => ?_))
    show mm_Wp X (D + 1) mm_r75 9 [some (.ref 0), some (dz_I a1), none] [dz_I q2, dz_I a1] (hz_0 Z) Q
    refine wq_ic (p := dz_c a1 < dz_c q2) (tt := 14) (pc' := 12) rfl rfl (cq_lt rfl rfl) rfl (fun c3 => ?_) (fun c3 => ?_)
    · replace H := dz_it c3 H
      refine wp_s (i := .aload_n 0) (n := 1) (pc' := 15) (st' := [.ref 0]) rfl rfl ?_
      obtain ⟨k4, H⟩ := dz_ck H
      refine wq_gd (idx := 31) (pc' := 18) rfl rfl ho_O rfl rfl ?_
      refine wp_s (i := .aload_n 0) (n := 1) (pc' := 19) (st' := [.ref 0, .ref ((Z 0 3 0).toNat)]) rfl rfl ?_
      obtain ⟨k5, H⟩ := dz_ck H
      refine wq_gd (idx := 24) (pc' := 22) rfl rfl ho_O rfl rfl ?_
      refine wq_gi (idx := 111) (pc' := 25) rfl rfl (ho_P k5) rfl rfl ?_
      refine wq_cv (Dq := D) (r' := mm_r55) (as0 := [dz_I (Z ((Z 0 2 0).toNat) 3 0)]) (rest := []) (ls' := [some (.ref ((Z 0 3 0).toNat)), some (dz_I (Z ((Z 0 2 0).toNat) 3 0)), none, none]) (pc' := 28) rfl rfl rfl rfl (ho_S k4) rfl rfl rfl ?_
      refine jw_S_pegsAsNumber (X := X) (D := D + 0) ((Z 0 3 0).toNat) k4 (Z ((Z 0 2 0).toNat) 3 0) Z (dz_pm (dz_bi H) (fun q6 H => ?_))
      show mm_Wp X (D + 1) mm_r75 28 [some (.ref 0), some (dz_I a1), none] [dz_I q6] (hz_0 Z) Q
      refine wq_st (k := 2) (i := .istore_n 2) (n := 1) (ls' := [some (.ref 0), some (dz_I a1), some (dz_I q6)]) (pc' := 29) rfl rfl rfl rfl rfl ?_
      refine wp_s (i := .aload_n 0) (n := 1) (pc' := 30) (st' := [.ref 0]) rfl rfl ?_
      refine wq_gd (idx := 31) (pc' := 33) rfl rfl ho_O rfl rfl ?_
      refine wp_s (i := .aload_n 0) (n := 1) (pc' := 34) (st' := [.ref 0, .ref ((Z 0 3 0).toNat)]) rfl rfl ?_
      refine wq_gd (idx := 24) (pc' := 37) rfl rfl ho_O rfl rfl ?_
      refine wq_gi (idx := 111) (pc' := 40) rfl rfl (ho_P k5) rfl rfl ?_
      refine wp_s (i := .iload_n 1) (n := 1) (pc' := 41) (st' := [dz_I a1, dz_I (Z ((Z 0 2 0).toNat) 3 0), .ref ((Z 0 3 0).toNat)]) rfl rfl ?_
      refine wq_cv (Dq := D) (r' := mm_r56) (as0 := [dz_I (Z ((Z 0 2 0).toNat) 3 0), dz_I a1]) (rest := []) (ls' := [some (.ref ((Z 0 3 0).toNat)), some (dz_I (Z ((Z 0 2 0).toNat) 3 0)), some (dz_I a1), none, none]) (pc' := 44) rfl rfl rfl rfl (ho_S k4) rfl rfl rfl ?_
      refine jw_S_setPegs (X := X) (D := D + 0) ((Z 0 3 0).toNat) k4 (Z ((Z 0 2 0).toNat) 3 0) a1 Z (dz_pm (dz_bi H) (fun q7 H => ?_))
      show mm_Wp X (D + 1) mm_r75 44 [some (.ref 0), some (dz_I a1), some (dz_I q6)] [] (hz_0 q7) Q
      refine wp_s (i := .iload_n 2) (n := 1) (pc' := 45) (st' := [dz_I q6]) rfl rfl ?_
      refine wq_ri rfl rfl ?_
      replace H := dz_sm H
      exact H
    · replace H := dz_if c3 H
      refine wp_s (i := .iconst (-1)) (n := 1) (pc' := 13) (st' := [dz_I (-1)]) rfl rfl ?_
      refine wq_ri rfl rfl ?_
      replace H := dz_sm H
      exact H
-- 109
def jf_O_isRain (a1 : Int) : Option (Bool) := if dz_c a1 < 0 then (some false) else (if 9 < dz_c a1 then (some false) else (some true))
set_option maxRecDepth 20000 in
theorem jw_O_isRain {X : Option (List Int32)} {D : Nat} {Q : Option Value → mm_H → Prop} (a1 : Int) (Z : dz_Z) (H : dz_p (jf_O_isRain a1) (fun q => Q (some (dz_B q)) (hz_0 Z))) : mm_Wp X D mm_r109 0 [some (dz_I a1)] [] (hz_0 Z) Q := by
  unfold jf_O_isRain at H
  refine wp_s (i := .iload_n 0) (n := 1) (pc' := 1) (st' := [dz_I a1]) rfl rfl ?_
  refine wq_if (p := dz_c a1 < 0) (tt := 14) (pc' := 4) rfl rfl (cz_lt rfl) rfl (fun c1 => ?_) (fun c1 => ?_)
  · replace H := dz_it c1 H
    refine wp_s (i := .iconst 0) (n := 1) (pc' := 15) (st' := [dz_I 0]) rfl rfl ?_
    refine wq_rf rfl rfl ?_
    replace H := dz_sm H
    exact H
  · replace H := dz_if c1 H
    refine wp_s (i := .iload_n 0) (n := 1) (pc' := 5) (st' := [dz_I a1]) rfl rfl ?_
    refine wp_s (i := .bipush 9) (n := 2) (pc' := 7) (st' := [dz_I 9, dz_I a1]) rfl rfl ?_
    refine wq_ic (p := 9 < dz_c a1) (tt := 14) (pc' := 10) rfl rfl (cq_gt rfl dk_9) rfl (fun c2 => ?_) (fun c2 => ?_)
    · replace H := dz_it c2 H
      refine wp_s (i := .iconst 0) (n := 1) (pc' := 15) (st' := [dz_I 0]) rfl rfl ?_
      refine wq_rf rfl rfl ?_
      replace H := dz_sm H
      exact H
    · replace H := dz_if c2 H
      refine wp_s (i := .iconst 1) (n := 1) (pc' := 11) (st' := [dz_I 1]) rfl rfl ?_
      refine wp_s (i := .goto 4) (n := 3) (pc' := 15) (st' := [dz_I 1]) rfl rfl ?_
      refine wq_rt rfl rfl ?_
      replace H := dz_sm H
      exact H
