set_option maxRecDepth 20000 in
set_option maxHeartbeats 4000000 in
theorem pk_19_0 (X : Option (List Int32)) (w : Int32) : mm_Wp X 12 mm_r84 0 [some (.ref 0), some (.int 0), some (.int w)] [] hp_0 (fun v1 h1 => ∃ x : Int32, v1 = some (.int x) ∧ (∃ fs, h1[114]? = some (.inr (10, fs))) ∧ mm_Wp X 12 mm_r167 0 [some (.ref 114), some (.int 0), some (.int w)] [] h1 (fun v2 h2 => v2 = some (.int x) ∧ pk_ok h2)) := by
  refine wp_s (i := .iload_n 1) (n := 1) (pc' := 1) (st' := [.int 0]) rfl rfl ?_
  refine wp_s (i := .ifCond .lt 25) (n := 3) (pc' := 4) (st' := []) rfl rfl ?_
  refine wp_s (i := .iload_n 1) (n := 1) (pc' := 5) (st' := [.int 0]) rfl rfl ?_
  refine wp_s (i := .aload_n 0) (n := 1) (pc' := 6) (st' := [.ref 0, .int 0]) rfl rfl ?_
  refine wp_gf (idx := 31) (a := 0) (v := .ref 36) (pc' := 9) rfl rfl hb_0 rfl rfl ?_
  refine wp_gf (idx := 120) (a := 36) (v := .int 0) (pc' := 12) rfl rfl hb_36 rfl rfl ?_
  refine wp_s (i := .if_icmp .gt 14) (n := 3) (pc' := 15) (st' := []) rfl rfl ?_
  refine wp_s (i := .iload_n 2) (n := 1) (pc' := 16) (st' := [.int w]) rfl rfl ?_
  refine wp_if (t := 26) (st := []) rfl rfl (fun hc1 => ?_) (fun hc1 => ?_)
  · skip
    have q1 : (w).toInt < 0 := by have := mc_t_lt hc1; simpa using this
    show mm_Wp _ _ _ 26 _ _ _ _
    refine wp_s (i := .iconst (-1)) (n := 1) (pc' := 27) (st' := [.int (-1)]) rfl rfl ?_
    refine wp_r (i := .ireturn) (n := 1) (v := some (.int (-1))) rfl rfl ?_
    refine ⟨(-1), rfl, ⟨_, hb_114⟩, ?_⟩
    show mm_Wp X 12 mm_r167 0 [some (.ref 114), some (.int 0), some (.int w)] [] _ _
    refine wp_s (i := .iload_n 1) (n := 1) (pc' := 1) (st' := [.int 0]) rfl rfl ?_
    refine wp_s (i := .i2l) (n := 1) (pc' := 2) (st' := [.long 0]) rfl rfl ?_
    refine wp_s (i := .lconst 0) (n := 1) (pc' := 3) (st' := [.long 0, .long 0]) rfl rfl ?_
    refine wp_s (i := .aload_n 0) (n := 1) (pc' := 4) (st' := [.ref 114, .long 0, .long 0]) rfl rfl ?_
    refine wp_gf (idx := 7) (a := 114) (v := .ref 115) (pc' := 7) rfl rfl hb_114 rfl rfl ?_
    refine wp_s (i := .bipush 73) (n := 2) (pc' := 9) (st' := [.int 73, .ref 115, .long 0, .long 0]) rfl rfl ?_
    refine wp_ia (x := 0) (pc' := 10) rfl hb_115 rfl rfl rfl ?_
    refine wp_s (i := .i2l) (n := 1) (pc' := 11) (st' := [.long 0, .long 0, .long 0]) rfl rfl ?_
    refine wp_c (i := .invokestatic 81) (n := 3) (Dq := 11) (r' := mm_r120) (as := [.long 0, .long 0, .long 0]) (rest := []) (ls' := [some (.long 0), none, some (.long 0), none, some (.long 0), none]) rfl rfl rfl ?_
    refine wp_x 16 (v := some (.int 1)) (h' := hp_0) (mm_dec (by decide +kernel)) ?_
    show mm_Wp X 12 mm_r167 14 [some (.ref 114), some (.int 0), some (.int w)] [.int 1] _ _
    refine wp_s (i := .ifCond .eq 15) (n := 3) (pc' := 17) (st' := []) rfl rfl ?_
    refine wp_s (i := .iload_n 2) (n := 1) (pc' := 18) (st' := [.int w]) rfl rfl ?_
    refine wp_s (i := .i2l) (n := 1) (pc' := 19) (st' := [.long ((w).toInt64)]) rfl rfl ?_
    refine wp_s (i := .lconst 0) (n := 1) (pc' := 20) (st' := [.long 0, .long ((w).toInt64)]) rfl rfl ?_
    refine wp_s (i := .ldc2_w 251) (n := 3) (pc' := 23) (st' := [.long 255, .long 0, .long ((w).toInt64)]) rfl rfl ?_
    refine wp_c (i := .invokestatic 81) (n := 3) (Dq := 11) (r' := mm_r120) (as := [.long ((w).toInt64), .long 0, .long 255]) (rest := []) (ls' := [some (.long ((w).toInt64)), none, some (.long 0), none, some (.long 255), none]) rfl rfl rfl ?_
    refine wp_s (i := .lload_n 0) (n := 1) (pc' := 1) (st' := [.long ((w).toInt64)]) rfl rfl ?_
    refine wp_s (i := .lload_n 2) (n := 1) (pc' := 2) (st' := [.long 0, .long ((w).toInt64)]) rfl rfl ?_
    refine wp_s (i := .lcmp) (n := 1) (pc' := 3) (st' := [.int (lg_cmp ((w).toInt64) 0)]) rfl rfl ?_
    refine wp_if (t := 17) (st := []) rfl rfl (fun hc2 => ?_) (fun hc2 => ?_)
    · skip
      have q2 : (w).toInt < 0 := by have := lc_t_lt hc2; simpa using this
      show mm_Wp _ _ _ 17 _ _ _ _
      refine wp_s (i := .iconst 0) (n := 1) (pc' := 18) (st' := [.int 0]) rfl rfl ?_
      refine wp_r (i := .ireturn) (n := 1) (v := some (.int 0)) rfl rfl ?_
      show mm_Wp X 12 mm_r167 26 [some (.ref 114), some (.int 0), some (.int w)] [.int 0] _ _
      refine wp_s (i := .ifCond .ne 5) (n := 3) (pc' := 29) (st' := []) rfl rfl ?_
      refine wp_s (i := .iconst (-1)) (n := 1) (pc' := 30) (st' := [.int (-1)]) rfl rfl ?_
      refine wp_r (i := .ireturn) (n := 1) (v := some (.int (-1))) rfl rfl ?_
      exact ⟨rfl, pk_ok0⟩
    · skip
      have q2 : (w).toInt ≥ 0 := by have := lc_f_lt hc2; simpa using this
      exfalso; omega
  · skip
    have q1 : (w).toInt ≥ 0 := by have := mc_f_lt hc1; simpa using this
    show mm_Wp _ _ _ 19 _ _ _ _
    refine wp_s (i := .iload_n 2) (n := 1) (pc' := 20) (st' := [.int w]) rfl rfl ?_
    refine wp_s (i := .sipush 255) (n := 3) (pc' := 23) (st' := [.int 255, .int w]) rfl rfl ?_
    refine wp_ic (t := 28) (st := []) rfl rfl (fun hc3 => ?_) (fun hc3 => ?_)
    · skip
      have q3 : (w).toInt ≤ 255 := by have := mc_t_le hc3; simpa using this
      show mm_Wp _ _ _ 28 _ _ _ _
      refine wp_s (i := .iload_n 1) (n := 1) (pc' := 29) (st' := [.int 0]) rfl rfl ?_
      refine wp_s (i := .bipush 12) (n := 2) (pc' := 31) (st' := [.int 12, .int 0]) rfl rfl ?_
      refine wp_s (i := .if_icmp .lt 6) (n := 3) (pc' := 37) (st' := []) rfl rfl ?_
      refine wp_s (i := .aload_n 0) (n := 1) (pc' := 38) (st' := [.ref 0]) rfl rfl ?_
      refine wp_gf (idx := 31) (a := 0) (v := .ref 36) (pc' := 41) rfl rfl hb_0 rfl rfl ?_
      refine wp_gf (idx := 251) (a := 36) (v := .ref 45) (pc' := 44) rfl rfl hb_36 rfl rfl ?_
      refine wp_s (i := .iload_n 1) (n := 1) (pc' := 45) (st' := [.int 0, .ref 45]) rfl rfl ?_
      refine wp_s (i := .iload_n 2) (n := 1) (pc' := 46) (st' := [.int w, .int 0, .ref 45]) rfl rfl ?_
      refine wp_is (l' := ((List.replicate 12 0).set 0 w)) (pc' := 47) rfl hb_45 rfl rfl rfl rfl ?_
      refine wp_s (i := .iload_n 1) (n := 1) (pc' := 48) (st' := [.int 0]) rfl rfl ?_
      refine wp_s (i := .aload_n 0) (n := 1) (pc' := 49) (st' := [.ref 0, .int 0]) rfl rfl ?_
      refine wp_gf (idx := 31) (a := 0) (v := .ref 36) (pc' := 52) rfl rfl (mm_sn rfl hb_0) rfl rfl ?_
      refine wp_gf (idx := 120) (a := 36) (v := .int 0) (pc' := 55) rfl rfl (mm_sn rfl hb_36) rfl rfl ?_
      refine wp_s (i := .if_icmp .ne 16) (n := 3) (pc' := 58) (st' := []) rfl rfl ?_
      refine wp_s (i := .aload_n 0) (n := 1) (pc' := 59) (st' := [.ref 0]) rfl rfl ?_
      refine wp_gf (idx := 31) (a := 0) (v := .ref 36) (pc' := 62) rfl rfl (mm_sn rfl hb_0) rfl rfl ?_
      refine wp_s (i := .dup) (n := 1) (pc' := 63) (st' := [.ref 36, .ref 36]) rfl rfl ?_
      refine wp_gf (idx := 120) (a := 36) (v := .int 0) (pc' := 66) rfl rfl (mm_sn rfl hb_36) rfl rfl ?_
      refine wp_s (i := .iconst 1) (n := 1) (pc' := 67) (st' := [.int 1, .int 0, .ref 36]) rfl rfl ?_
      refine wp_s (i := .iadd) (n := 1) (pc' := 68) (st' := [.int 1, .ref 36]) rfl rfl ?_
      refine wp_pf (idx := 120) (a := 36) (fs' := [.ref 37, .ref 38, .ref 39, .ref 40, .ref 41, .ref 45, .int 1]) (pc' := 71) rfl rfl rfl (mm_sn rfl hb_36) rfl rfl rfl rfl rfl ?_
      refine wp_s (i := .aload_n 0) (n := 1) (pc' := 72) (st' := [.ref 0]) rfl rfl ?_
      refine wp_gf (idx := 31) (a := 0) (v := .ref 36) (pc' := 75) rfl rfl (mm_sn rfl (mm_sn rfl hb_0)) rfl rfl ?_
      refine wp_gf (idx := 120) (a := 36) (v := .int 1) (pc' := 78) rfl rfl (mm_ss (mm_sn rfl hb_36)) rfl rfl ?_
      refine wp_r (i := .ireturn) (n := 1) (v := some (.int 1)) rfl rfl ?_
      refine ⟨1, rfl, ⟨_, (mm_sn rfl (mm_sn rfl hb_114))⟩, ?_⟩
      show mm_Wp X 12 mm_r167 0 [some (.ref 114), some (.int 0), some (.int w)] [] _ _
      refine wp_s (i := .iload_n 1) (n := 1) (pc' := 1) (st' := [.int 0]) rfl rfl ?_
      refine wp_s (i := .i2l) (n := 1) (pc' := 2) (st' := [.long 0]) rfl rfl ?_
      refine wp_s (i := .lconst 0) (n := 1) (pc' := 3) (st' := [.long 0, .long 0]) rfl rfl ?_
      refine wp_s (i := .aload_n 0) (n := 1) (pc' := 4) (st' := [.ref 114, .long 0, .long 0]) rfl rfl ?_
      refine wp_gf (idx := 7) (a := 114) (v := .ref 115) (pc' := 7) rfl rfl (mm_sn rfl (mm_sn rfl hb_114)) rfl rfl ?_
      refine wp_s (i := .bipush 73) (n := 2) (pc' := 9) (st' := [.int 73, .ref 115, .long 0, .long 0]) rfl rfl ?_
      refine wp_ia (x := 0) (pc' := 10) rfl (mm_sn rfl (mm_sn rfl hb_115)) rfl rfl rfl ?_
      refine wp_s (i := .i2l) (n := 1) (pc' := 11) (st' := [.long 0, .long 0, .long 0]) rfl rfl ?_
      refine wp_c (i := .invokestatic 81) (n := 3) (Dq := 11) (r' := mm_r120) (as := [.long 0, .long 0, .long 0]) (rest := []) (ls' := [some (.long 0), none, some (.long 0), none, some (.long 0), none]) rfl rfl rfl ?_
      refine wp_s (i := .lload_n 0) (n := 1) (pc' := 1) (st' := [.long 0]) rfl rfl ?_
      refine wp_s (i := .lload_n 2) (n := 1) (pc' := 2) (st' := [.long 0, .long 0]) rfl rfl ?_
      refine wp_s (i := .lcmp) (n := 1) (pc' := 3) (st' := [.int 0]) rfl rfl ?_
      refine wp_s (i := .ifCond .lt 14) (n := 3) (pc' := 6) (st' := []) rfl rfl ?_
      refine wp_s (i := .lload_n 0) (n := 1) (pc' := 7) (st' := [.long 0]) rfl rfl ?_
      refine wp_s (i := .lload 4) (n := 2) (pc' := 9) (st' := [.long 0, .long 0]) rfl rfl ?_
      refine wp_s (i := .lcmp) (n := 1) (pc' := 10) (st' := [.int 0]) rfl rfl ?_
      refine wp_s (i := .ifCond .gt 7) (n := 3) (pc' := 13) (st' := []) rfl rfl ?_
      refine wp_s (i := .iconst 1) (n := 1) (pc' := 14) (st' := [.int 1]) rfl rfl ?_
      refine wp_s (i := .goto 4) (n := 3) (pc' := 18) (st' := [.int 1]) rfl rfl ?_
      refine wp_r (i := .ireturn) (n := 1) (v := some (.int 1)) rfl rfl ?_
      show mm_Wp X 12 mm_r167 14 [some (.ref 114), some (.int 0), some (.int w)] [.int 1] _ _
      refine wp_s (i := .ifCond .eq 15) (n := 3) (pc' := 17) (st' := []) rfl rfl ?_
      refine wp_s (i := .iload_n 2) (n := 1) (pc' := 18) (st' := [.int w]) rfl rfl ?_
      refine wp_s (i := .i2l) (n := 1) (pc' := 19) (st' := [.long ((w).toInt64)]) rfl rfl ?_
      refine wp_s (i := .lconst 0) (n := 1) (pc' := 20) (st' := [.long 0, .long ((w).toInt64)]) rfl rfl ?_
      refine wp_s (i := .ldc2_w 251) (n := 3) (pc' := 23) (st' := [.long 255, .long 0, .long ((w).toInt64)]) rfl rfl ?_
      refine wp_c (i := .invokestatic 81) (n := 3) (Dq := 11) (r' := mm_r120) (as := [.long ((w).toInt64), .long 0, .long 255]) (rest := []) (ls' := [some (.long ((w).toInt64)), none, some (.long 0), none, some (.long 255), none]) rfl rfl rfl ?_
      refine wp_s (i := .lload_n 0) (n := 1) (pc' := 1) (st' := [.long ((w).toInt64)]) rfl rfl ?_
      refine wp_s (i := .lload_n 2) (n := 1) (pc' := 2) (st' := [.long 0, .long ((w).toInt64)]) rfl rfl ?_
      refine wp_s (i := .lcmp) (n := 1) (pc' := 3) (st' := [.int (lg_cmp ((w).toInt64) 0)]) rfl rfl ?_
      refine wp_if (t := 17) (st := []) rfl rfl (fun hc4 => ?_) (fun hc4 => ?_)
      · skip
        have q4 : (w).toInt < 0 := by have := lc_t_lt hc4; simpa using this
        exfalso; omega
      · skip
        have q4 : (w).toInt ≥ 0 := by have := lc_f_lt hc4; simpa using this
        show mm_Wp _ _ _ 6 _ _ _ _
        refine wp_s (i := .lload_n 0) (n := 1) (pc' := 7) (st' := [.long ((w).toInt64)]) rfl rfl ?_
        refine wp_s (i := .lload 4) (n := 2) (pc' := 9) (st' := [.long 255, .long ((w).toInt64)]) rfl rfl ?_
        refine wp_s (i := .lcmp) (n := 1) (pc' := 10) (st' := [.int (lg_cmp ((w).toInt64) 255)]) rfl rfl ?_
        refine wp_if (t := 17) (st := []) rfl rfl (fun hc5 => ?_) (fun hc5 => ?_)
        · skip
          have q5 : (w).toInt > 255 := by have := lc_t_gt hc5; simpa using this
          exfalso; omega
        · skip
          have q5 : (w).toInt ≤ 255 := by have := lc_f_gt hc5; simpa using this
          show mm_Wp _ _ _ 13 _ _ _ _
          refine wp_s (i := .iconst 1) (n := 1) (pc' := 14) (st' := [.int 1]) rfl rfl ?_
          refine wp_s (i := .goto 4) (n := 3) (pc' := 18) (st' := [.int 1]) rfl rfl ?_
          refine wp_r (i := .ireturn) (n := 1) (v := some (.int 1)) rfl rfl ?_
          show mm_Wp X 12 mm_r167 26 [some (.ref 114), some (.int 0), some (.int w)] [.int 1] _ _
          refine wp_s (i := .ifCond .ne 5) (n := 3) (pc' := 31) (st' := []) rfl rfl ?_
          refine wp_s (i := .iload_n 1) (n := 1) (pc' := 32) (st' := [.int 0]) rfl rfl ?_
          refine wp_s (i := .bipush 12) (n := 2) (pc' := 34) (st' := [.int 12, .int 0]) rfl rfl ?_
          refine wp_s (i := .if_icmp .ne 6) (n := 3) (pc' := 40) (st' := []) rfl rfl ?_
          refine wp_s (i := .aload_n 0) (n := 1) (pc' := 41) (st' := [.ref 114]) rfl rfl ?_
          refine wp_gf (idx := 7) (a := 114) (v := .ref 115) (pc' := 44) rfl rfl (mm_sn rfl (mm_sn rfl hb_114)) rfl rfl ?_
          refine wp_s (i := .bipush 74) (n := 2) (pc' := 46) (st' := [.int 74, .ref 115]) rfl rfl ?_
          refine wp_s (i := .iload_n 1) (n := 1) (pc' := 47) (st' := [.int 0, .int 74, .ref 115]) rfl rfl ?_
          refine wp_s (i := .iadd) (n := 1) (pc' := 48) (st' := [.int 74, .ref 115]) rfl rfl ?_
          refine wp_s (i := .iload_n 2) (n := 1) (pc' := 49) (st' := [.int w, .int 74, .ref 115]) rfl rfl ?_
          refine wp_is (l' := ((List.replicate 700 0).set 74 w)) (pc' := 50) rfl (mm_sn rfl (mm_sn rfl hb_115)) rfl rfl rfl rfl ?_
          refine wp_s (i := .aload_n 0) (n := 1) (pc' := 51) (st' := [.ref 114]) rfl rfl ?_
          refine wp_gf (idx := 7) (a := 114) (v := .ref 115) (pc' := 54) rfl rfl (mm_sn rfl (mm_sn rfl (mm_sn rfl hb_114))) rfl rfl ?_
          refine wp_s (i := .bipush 73) (n := 2) (pc' := 56) (st' := [.int 73, .ref 115]) rfl rfl ?_
          refine wp_s (i := .dup2) (n := 1) (pc' := 57) (st' := [.int 73, .ref 115, .int 73, .ref 115]) rfl rfl ?_
          refine wp_ia (x := 0) (pc' := 58) rfl (mm_ss (mm_sn rfl (mm_sn rfl hb_115))) rfl rfl rfl ?_
          refine wp_s (i := .iload_n 1) (n := 1) (pc' := 59) (st' := [.int 0, .int 0, .int 73, .ref 115]) rfl rfl ?_
          refine wp_s (i := .aload_n 0) (n := 1) (pc' := 60) (st' := [.ref 114, .int 0, .int 0, .int 73, .ref 115]) rfl rfl ?_
          refine wp_gf (idx := 7) (a := 114) (v := .ref 115) (pc' := 63) rfl rfl (mm_sn rfl (mm_sn rfl (mm_sn rfl hb_114))) rfl rfl ?_
          refine wp_s (i := .bipush 73) (n := 2) (pc' := 65) (st' := [.int 73, .ref 115, .int 0, .int 0, .int 73, .ref 115]) rfl rfl ?_
          refine wp_ia (x := 0) (pc' := 66) rfl (mm_ss (mm_sn rfl (mm_sn rfl hb_115))) rfl rfl rfl ?_
          refine wp_s (i := .if_icmp .ne 7) (n := 3) (pc' := 69) (st' := [.int 0, .int 73, .ref 115]) rfl rfl ?_
          refine wp_s (i := .iconst 1) (n := 1) (pc' := 70) (st' := [.int 1, .int 0, .int 73, .ref 115]) rfl rfl ?_
          refine wp_s (i := .goto 4) (n := 3) (pc' := 74) (st' := [.int 1, .int 0, .int 73, .ref 115]) rfl rfl ?_
          refine wp_s (i := .iadd) (n := 1) (pc' := 75) (st' := [.int 1, .int 73, .ref 115]) rfl rfl ?_
          refine wp_is (l' := (((List.replicate 700 0).set 74 w).set 73 1)) (pc' := 76) rfl (mm_ss (mm_sn rfl (mm_sn rfl hb_115))) rfl rfl mm_rs2 rfl ?_
          refine wp_s (i := .aload_n 0) (n := 1) (pc' := 77) (st' := [.ref 114]) rfl rfl ?_
          refine wp_gf (idx := 7) (a := 114) (v := .ref 115) (pc' := 80) rfl rfl (mm_sn rfl (mm_sn rfl (mm_sn rfl hb_114))) rfl rfl ?_
          refine wp_s (i := .bipush 73) (n := 2) (pc' := 82) (st' := [.int 73, .ref 115]) rfl rfl ?_
          refine wp_ia (x := 1) (pc' := 83) rfl (mm_ss (mm_sn rfl (mm_sn rfl hb_115))) rfl rfl rfl ?_
          refine wp_r (i := .ireturn) (n := 1) (v := some (.int 1)) rfl rfl ?_
          exact ⟨rfl, (pk_okS (pk_okS (pk_okS pk_ok0 hb_45 rfl) (mm_sn rfl hb_36) rfl) (mm_sn rfl (mm_sn rfl hb_115)) rfl)⟩
    · skip
      have q3 : (w).toInt > 255 := by have := mc_f_le hc3; simpa using this
      show mm_Wp _ _ _ 26 _ _ _ _
      refine wp_s (i := .iconst (-1)) (n := 1) (pc' := 27) (st' := [.int (-1)]) rfl rfl ?_
      refine wp_r (i := .ireturn) (n := 1) (v := some (.int (-1))) rfl rfl ?_
      refine ⟨(-1), rfl, ⟨_, hb_114⟩, ?_⟩
      show mm_Wp X 12 mm_r167 0 [some (.ref 114), some (.int 0), some (.int w)] [] _ _
      refine wp_s (i := .iload_n 1) (n := 1) (pc' := 1) (st' := [.int 0]) rfl rfl ?_
      refine wp_s (i := .i2l) (n := 1) (pc' := 2) (st' := [.long 0]) rfl rfl ?_
      refine wp_s (i := .lconst 0) (n := 1) (pc' := 3) (st' := [.long 0, .long 0]) rfl rfl ?_
      refine wp_s (i := .aload_n 0) (n := 1) (pc' := 4) (st' := [.ref 114, .long 0, .long 0]) rfl rfl ?_
      refine wp_gf (idx := 7) (a := 114) (v := .ref 115) (pc' := 7) rfl rfl hb_114 rfl rfl ?_
      refine wp_s (i := .bipush 73) (n := 2) (pc' := 9) (st' := [.int 73, .ref 115, .long 0, .long 0]) rfl rfl ?_
      refine wp_ia (x := 0) (pc' := 10) rfl hb_115 rfl rfl rfl ?_
      refine wp_s (i := .i2l) (n := 1) (pc' := 11) (st' := [.long 0, .long 0, .long 0]) rfl rfl ?_
      refine wp_c (i := .invokestatic 81) (n := 3) (Dq := 11) (r' := mm_r120) (as := [.long 0, .long 0, .long 0]) (rest := []) (ls' := [some (.long 0), none, some (.long 0), none, some (.long 0), none]) rfl rfl rfl ?_
      refine wp_x 16 (v := some (.int 1)) (h' := hp_0) (mm_dec (by decide +kernel)) ?_
      show mm_Wp X 12 mm_r167 14 [some (.ref 114), some (.int 0), some (.int w)] [.int 1] _ _
      refine wp_s (i := .ifCond .eq 15) (n := 3) (pc' := 17) (st' := []) rfl rfl ?_
      refine wp_s (i := .iload_n 2) (n := 1) (pc' := 18) (st' := [.int w]) rfl rfl ?_
      refine wp_s (i := .i2l) (n := 1) (pc' := 19) (st' := [.long ((w).toInt64)]) rfl rfl ?_
      refine wp_s (i := .lconst 0) (n := 1) (pc' := 20) (st' := [.long 0, .long ((w).toInt64)]) rfl rfl ?_
      refine wp_s (i := .ldc2_w 251) (n := 3) (pc' := 23) (st' := [.long 255, .long 0, .long ((w).toInt64)]) rfl rfl ?_
      refine wp_c (i := .invokestatic 81) (n := 3) (Dq := 11) (r' := mm_r120) (as := [.long ((w).toInt64), .long 0, .long 255]) (rest := []) (ls' := [some (.long ((w).toInt64)), none, some (.long 0), none, some (.long 255), none]) rfl rfl rfl ?_
      refine wp_s (i := .lload_n 0) (n := 1) (pc' := 1) (st' := [.long ((w).toInt64)]) rfl rfl ?_
      refine wp_s (i := .lload_n 2) (n := 1) (pc' := 2) (st' := [.long 0, .long ((w).toInt64)]) rfl rfl ?_
      refine wp_s (i := .lcmp) (n := 1) (pc' := 3) (st' := [.int (lg_cmp ((w).toInt64) 0)]) rfl rfl ?_
      refine wp_if (t := 17) (st := []) rfl rfl (fun hc6 => ?_) (fun hc6 => ?_)
      · skip
        have q6 : (w).toInt < 0 := by have := lc_t_lt hc6; simpa using this
        exfalso; omega
      · skip
        have q6 : (w).toInt ≥ 0 := by have := lc_f_lt hc6; simpa using this
        show mm_Wp _ _ _ 6 _ _ _ _
        refine wp_s (i := .lload_n 0) (n := 1) (pc' := 7) (st' := [.long ((w).toInt64)]) rfl rfl ?_
        refine wp_s (i := .lload 4) (n := 2) (pc' := 9) (st' := [.long 255, .long ((w).toInt64)]) rfl rfl ?_
        refine wp_s (i := .lcmp) (n := 1) (pc' := 10) (st' := [.int (lg_cmp ((w).toInt64) 255)]) rfl rfl ?_
        refine wp_if (t := 17) (st := []) rfl rfl (fun hc7 => ?_) (fun hc7 => ?_)
        · skip
          have q7 : (w).toInt > 255 := by have := lc_t_gt hc7; simpa using this
          show mm_Wp _ _ _ 17 _ _ _ _
          refine wp_s (i := .iconst 0) (n := 1) (pc' := 18) (st' := [.int 0]) rfl rfl ?_
          refine wp_r (i := .ireturn) (n := 1) (v := some (.int 0)) rfl rfl ?_
          show mm_Wp X 12 mm_r167 26 [some (.ref 114), some (.int 0), some (.int w)] [.int 0] _ _
          refine wp_s (i := .ifCond .ne 5) (n := 3) (pc' := 29) (st' := []) rfl rfl ?_
          refine wp_s (i := .iconst (-1)) (n := 1) (pc' := 30) (st' := [.int (-1)]) rfl rfl ?_
          refine wp_r (i := .ireturn) (n := 1) (v := some (.int (-1))) rfl rfl ?_
          exact ⟨rfl, pk_ok0⟩
        · skip
          have q7 : (w).toInt ≤ 255 := by have := lc_f_gt hc7; simpa using this
          exfalso; omega
set_option maxRecDepth 20000 in
set_option maxHeartbeats 4000000 in
theorem pk_19_o (X : Option (List Int32)) (n w : Int32) (he0 : ¬ n = 0) : mm_Wp X 12 mm_r84 0 [some (.ref 0), some (.int n), some (.int w)] [] hp_0 (fun v1 h1 => ∃ x : Int32, v1 = some (.int x) ∧ (∃ fs, h1[114]? = some (.inr (10, fs))) ∧ mm_Wp X 12 mm_r167 0 [some (.ref 114), some (.int n), some (.int w)] [] h1 (fun v2 h2 => v2 = some (.int x) ∧ pk_ok h2)) := by
  have hf0 : n.toInt ≠ 0 := fun q => he0 (Int32.toInt_inj.mp (by rw [q]; rfl))
  refine wp_s (i := .iload_n 1) (n := 1) (pc' := 1) (st' := [.int n]) rfl rfl ?_
  refine wp_if (t := 26) (st := []) rfl rfl (fun hc1 => ?_) (fun hc1 => ?_)
  · skip
    have q1 : (n).toInt < 0 := by have := mc_t_lt hc1; simpa using this
    show mm_Wp _ _ _ 26 _ _ _ _
    refine wp_s (i := .iconst (-1)) (n := 1) (pc' := 27) (st' := [.int (-1)]) rfl rfl ?_
    refine wp_r (i := .ireturn) (n := 1) (v := some (.int (-1))) rfl rfl ?_
    refine ⟨(-1), rfl, ⟨_, hb_114⟩, ?_⟩
    show mm_Wp X 12 mm_r167 0 [some (.ref 114), some (.int n), some (.int w)] [] _ _
    refine wp_s (i := .iload_n 1) (n := 1) (pc' := 1) (st' := [.int n]) rfl rfl ?_
    refine wp_s (i := .i2l) (n := 1) (pc' := 2) (st' := [.long ((n).toInt64)]) rfl rfl ?_
    refine wp_s (i := .lconst 0) (n := 1) (pc' := 3) (st' := [.long 0, .long ((n).toInt64)]) rfl rfl ?_
    refine wp_s (i := .aload_n 0) (n := 1) (pc' := 4) (st' := [.ref 114, .long 0, .long ((n).toInt64)]) rfl rfl ?_
    refine wp_gf (idx := 7) (a := 114) (v := .ref 115) (pc' := 7) rfl rfl hb_114 rfl rfl ?_
    refine wp_s (i := .bipush 73) (n := 2) (pc' := 9) (st' := [.int 73, .ref 115, .long 0, .long ((n).toInt64)]) rfl rfl ?_
    refine wp_ia (x := 0) (pc' := 10) rfl hb_115 rfl rfl rfl ?_
    refine wp_s (i := .i2l) (n := 1) (pc' := 11) (st' := [.long 0, .long 0, .long ((n).toInt64)]) rfl rfl ?_
    refine wp_c (i := .invokestatic 81) (n := 3) (Dq := 11) (r' := mm_r120) (as := [.long ((n).toInt64), .long 0, .long 0]) (rest := []) (ls' := [some (.long ((n).toInt64)), none, some (.long 0), none, some (.long 0), none]) rfl rfl rfl ?_
    refine wp_s (i := .lload_n 0) (n := 1) (pc' := 1) (st' := [.long ((n).toInt64)]) rfl rfl ?_
    refine wp_s (i := .lload_n 2) (n := 1) (pc' := 2) (st' := [.long 0, .long ((n).toInt64)]) rfl rfl ?_
    refine wp_s (i := .lcmp) (n := 1) (pc' := 3) (st' := [.int (lg_cmp ((n).toInt64) 0)]) rfl rfl ?_
    refine wp_if (t := 17) (st := []) rfl rfl (fun hc2 => ?_) (fun hc2 => ?_)
    · skip
      have q2 : (n).toInt < 0 := by have := lc_t_lt hc2; simpa using this
      show mm_Wp _ _ _ 17 _ _ _ _
      refine wp_s (i := .iconst 0) (n := 1) (pc' := 18) (st' := [.int 0]) rfl rfl ?_
      refine wp_r (i := .ireturn) (n := 1) (v := some (.int 0)) rfl rfl ?_
      show mm_Wp X 12 mm_r167 14 [some (.ref 114), some (.int n), some (.int w)] [.int 0] _ _
      refine wp_s (i := .ifCond .eq 15) (n := 3) (pc' := 29) (st' := []) rfl rfl ?_
      refine wp_s (i := .iconst (-1)) (n := 1) (pc' := 30) (st' := [.int (-1)]) rfl rfl ?_
      refine wp_r (i := .ireturn) (n := 1) (v := some (.int (-1))) rfl rfl ?_
      exact ⟨rfl, pk_ok0⟩
    · skip
      have q2 : (n).toInt ≥ 0 := by have := lc_f_lt hc2; simpa using this
      exfalso; omega
  · skip
    have q1 : (n).toInt ≥ 0 := by have := mc_f_lt hc1; simpa using this
    show mm_Wp _ _ _ 4 _ _ _ _
    refine wp_s (i := .iload_n 1) (n := 1) (pc' := 5) (st' := [.int n]) rfl rfl ?_
    refine wp_s (i := .aload_n 0) (n := 1) (pc' := 6) (st' := [.ref 0, .int n]) rfl rfl ?_
    refine wp_gf (idx := 31) (a := 0) (v := .ref 36) (pc' := 9) rfl rfl hb_0 rfl rfl ?_
    refine wp_gf (idx := 120) (a := 36) (v := .int 0) (pc' := 12) rfl rfl hb_36 rfl rfl ?_
    refine wp_ic (t := 26) (st := []) rfl rfl (fun hc3 => ?_) (fun hc3 => ?_)
    · skip
      have q3 : (n).toInt > 0 := by have := mc_t_gt hc3; simpa using this
      show mm_Wp _ _ _ 26 _ _ _ _
      refine wp_s (i := .iconst (-1)) (n := 1) (pc' := 27) (st' := [.int (-1)]) rfl rfl ?_
      refine wp_r (i := .ireturn) (n := 1) (v := some (.int (-1))) rfl rfl ?_
      refine ⟨(-1), rfl, ⟨_, hb_114⟩, ?_⟩
      show mm_Wp X 12 mm_r167 0 [some (.ref 114), some (.int n), some (.int w)] [] _ _
      refine wp_s (i := .iload_n 1) (n := 1) (pc' := 1) (st' := [.int n]) rfl rfl ?_
      refine wp_s (i := .i2l) (n := 1) (pc' := 2) (st' := [.long ((n).toInt64)]) rfl rfl ?_
      refine wp_s (i := .lconst 0) (n := 1) (pc' := 3) (st' := [.long 0, .long ((n).toInt64)]) rfl rfl ?_
      refine wp_s (i := .aload_n 0) (n := 1) (pc' := 4) (st' := [.ref 114, .long 0, .long ((n).toInt64)]) rfl rfl ?_
      refine wp_gf (idx := 7) (a := 114) (v := .ref 115) (pc' := 7) rfl rfl hb_114 rfl rfl ?_
      refine wp_s (i := .bipush 73) (n := 2) (pc' := 9) (st' := [.int 73, .ref 115, .long 0, .long ((n).toInt64)]) rfl rfl ?_
      refine wp_ia (x := 0) (pc' := 10) rfl hb_115 rfl rfl rfl ?_
      refine wp_s (i := .i2l) (n := 1) (pc' := 11) (st' := [.long 0, .long 0, .long ((n).toInt64)]) rfl rfl ?_
      refine wp_c (i := .invokestatic 81) (n := 3) (Dq := 11) (r' := mm_r120) (as := [.long ((n).toInt64), .long 0, .long 0]) (rest := []) (ls' := [some (.long ((n).toInt64)), none, some (.long 0), none, some (.long 0), none]) rfl rfl rfl ?_
      refine wp_s (i := .lload_n 0) (n := 1) (pc' := 1) (st' := [.long ((n).toInt64)]) rfl rfl ?_
      refine wp_s (i := .lload_n 2) (n := 1) (pc' := 2) (st' := [.long 0, .long ((n).toInt64)]) rfl rfl ?_
      refine wp_s (i := .lcmp) (n := 1) (pc' := 3) (st' := [.int (lg_cmp ((n).toInt64) 0)]) rfl rfl ?_
      refine wp_if (t := 17) (st := []) rfl rfl (fun hc4 => ?_) (fun hc4 => ?_)
      · skip
        have q4 : (n).toInt < 0 := by have := lc_t_lt hc4; simpa using this
        exfalso; omega
      · skip
        have q4 : (n).toInt ≥ 0 := by have := lc_f_lt hc4; simpa using this
        show mm_Wp _ _ _ 6 _ _ _ _
        refine wp_s (i := .lload_n 0) (n := 1) (pc' := 7) (st' := [.long ((n).toInt64)]) rfl rfl ?_
        refine wp_s (i := .lload 4) (n := 2) (pc' := 9) (st' := [.long 0, .long ((n).toInt64)]) rfl rfl ?_
        refine wp_s (i := .lcmp) (n := 1) (pc' := 10) (st' := [.int (lg_cmp ((n).toInt64) 0)]) rfl rfl ?_
        refine wp_if (t := 17) (st := []) rfl rfl (fun hc5 => ?_) (fun hc5 => ?_)
        · skip
          have q5 : (n).toInt > 0 := by have := lc_t_gt hc5; simpa using this
          show mm_Wp _ _ _ 17 _ _ _ _
          refine wp_s (i := .iconst 0) (n := 1) (pc' := 18) (st' := [.int 0]) rfl rfl ?_
          refine wp_r (i := .ireturn) (n := 1) (v := some (.int 0)) rfl rfl ?_
          show mm_Wp X 12 mm_r167 14 [some (.ref 114), some (.int n), some (.int w)] [.int 0] _ _
          refine wp_s (i := .ifCond .eq 15) (n := 3) (pc' := 29) (st' := []) rfl rfl ?_
          refine wp_s (i := .iconst (-1)) (n := 1) (pc' := 30) (st' := [.int (-1)]) rfl rfl ?_
          refine wp_r (i := .ireturn) (n := 1) (v := some (.int (-1))) rfl rfl ?_
          exact ⟨rfl, pk_ok0⟩
        · skip
          have q5 : (n).toInt ≤ 0 := by have := lc_f_gt hc5; simpa using this
          exfalso; omega
    · skip
      have q3 : (n).toInt ≤ 0 := by have := mc_f_gt hc3; simpa using this
      exfalso; omega
theorem pk_19 (X : Option (List Int32)) (n w : Int32) : mm_Wp X 12 mm_r84 0 [some (.ref 0), some (.int n), some (.int w)] [] hp_0 (fun v1 h1 => ∃ x : Int32, v1 = some (.int x) ∧ (∃ fs, h1[114]? = some (.inr (10, fs))) ∧ mm_Wp X 12 mm_r167 0 [some (.ref 114), some (.int n), some (.int w)] [] h1 (fun v2 h2 => v2 = some (.int x) ∧ pk_ok h2)) := by
  by_cases he0 : n = 0
  · subst he0; exact pk_19_0 X w
  exact pk_19_o X n w he0
set_option maxRecDepth 20000 in
set_option maxHeartbeats 4000000 in
theorem pk_20 (X : Option (List Int32)) (n : Int32) : mm_Wp X 12 mm_r85 0 [some (.ref 0), some (.int n)] [] hp_0 (fun v1 h1 => ∃ x : Int32, v1 = some (.int x) ∧ (∃ fs, h1[114]? = some (.inr (10, fs))) ∧ mm_Wp X 12 mm_r170 0 [some (.ref 114), some (.int n)] [] h1 (fun v2 h2 => v2 = some (.int x) ∧ pk_ok h2)) := by
  refine wp_s (i := .aload_n 0) (n := 1) (pc' := 1) (st' := [.ref 0]) rfl rfl ?_
  refine wp_s (i := .iload_n 1) (n := 1) (pc' := 2) (st' := [.int n, .ref 0]) rfl rfl ?_
  refine wp_c (i := .invokevirtual 220) (n := 3) (Dq := 11) (r' := mm_r105) (as := [.ref 0, .int n]) (rest := []) (ls' := [some (.ref 0), some (.int n)]) rfl rfl rfl ?_
  refine wp_s (i := .iload_n 1) (n := 1) (pc' := 1) (st' := [.int n]) rfl rfl ?_
  refine wp_if (t := 19) (st := []) rfl rfl (fun hc1 => ?_) (fun hc1 => ?_)
  · skip
    have q1 : (n).toInt < 0 := by have := mc_t_lt hc1; simpa using this
    show mm_Wp _ _ _ 19 _ _ _ _
    refine wp_s (i := .iconst 0) (n := 1) (pc' := 20) (st' := [.int 0]) rfl rfl ?_
    refine wp_r (i := .ireturn) (n := 1) (v := some (.int 0)) rfl rfl ?_
    show mm_Wp X 12 mm_r85 5 [some (.ref 0), some (.int n)] [.int 0] _ _
    refine wp_s (i := .ifCond .eq 11) (n := 3) (pc' := 16) (st' := []) rfl rfl ?_
    refine wp_s (i := .iconst (-1)) (n := 1) (pc' := 17) (st' := [.int (-1)]) rfl rfl ?_
    refine wp_r (i := .ireturn) (n := 1) (v := some (.int (-1))) rfl rfl ?_
    refine ⟨(-1), rfl, ⟨_, hb_114⟩, ?_⟩
    show mm_Wp X 12 mm_r170 0 [some (.ref 114), some (.int n)] [] _ _
    refine wp_s (i := .aload_n 0) (n := 1) (pc' := 1) (st' := [.ref 114]) rfl rfl ?_
    refine wp_s (i := .iload_n 1) (n := 1) (pc' := 2) (st' := [.int n, .ref 114]) rfl rfl ?_
    refine wp_c (i := .invokevirtual 243) (n := 3) (Dq := 11) (r' := mm_r140) (as := [.ref 114, .int n]) (rest := []) (ls' := [some (.ref 114), some (.int n)]) rfl rfl rfl ?_
    refine wp_s (i := .iload_n 1) (n := 1) (pc' := 1) (st' := [.int n]) rfl rfl ?_
    refine wp_s (i := .i2l) (n := 1) (pc' := 2) (st' := [.long ((n).toInt64)]) rfl rfl ?_
    refine wp_s (i := .lconst 0) (n := 1) (pc' := 3) (st' := [.long 0, .long ((n).toInt64)]) rfl rfl ?_
    refine wp_s (i := .aload_n 0) (n := 1) (pc' := 4) (st' := [.ref 114, .long 0, .long ((n).toInt64)]) rfl rfl ?_
    refine wp_gf (idx := 173) (a := 114) (v := .int 0) (pc' := 7) rfl rfl hb_114 rfl rfl ?_
    refine wp_s (i := .iconst 1) (n := 1) (pc' := 8) (st' := [.int 1, .int 0, .long 0, .long ((n).toInt64)]) rfl rfl ?_
    refine wp_s (i := .isub) (n := 1) (pc' := 9) (st' := [.int (-1), .long 0, .long ((n).toInt64)]) rfl rfl ?_
    refine wp_s (i := .i2l) (n := 1) (pc' := 10) (st' := [.long (-1), .long 0, .long ((n).toInt64)]) rfl rfl ?_
    refine wp_c (i := .invokestatic 81) (n := 3) (Dq := 10) (r' := mm_r120) (as := [.long ((n).toInt64), .long 0, .long (-1)]) (rest := []) (ls' := [some (.long ((n).toInt64)), none, some (.long 0), none, some (.long (-1)), none]) rfl rfl rfl ?_
    refine wp_s (i := .lload_n 0) (n := 1) (pc' := 1) (st' := [.long ((n).toInt64)]) rfl rfl ?_
    refine wp_s (i := .lload_n 2) (n := 1) (pc' := 2) (st' := [.long 0, .long ((n).toInt64)]) rfl rfl ?_
    refine wp_s (i := .lcmp) (n := 1) (pc' := 3) (st' := [.int (lg_cmp ((n).toInt64) 0)]) rfl rfl ?_
    refine wp_if (t := 17) (st := []) rfl rfl (fun hc2 => ?_) (fun hc2 => ?_)
    · skip
      have q2 : (n).toInt < 0 := by have := lc_t_lt hc2; simpa using this
      show mm_Wp _ _ _ 17 _ _ _ _
      refine wp_s (i := .iconst 0) (n := 1) (pc' := 18) (st' := [.int 0]) rfl rfl ?_
      refine wp_r (i := .ireturn) (n := 1) (v := some (.int 0)) rfl rfl ?_
      show mm_Wp X 11 mm_r140 13 [some (.ref 114), some (.int n)] [.int 0] _ _
      refine wp_r (i := .ireturn) (n := 1) (v := some (.int 0)) rfl rfl ?_
      show mm_Wp X 12 mm_r170 5 [some (.ref 114), some (.int n)] [.int 0] _ _
      refine wp_s (i := .ifCond .eq 11) (n := 3) (pc' := 16) (st' := []) rfl rfl ?_
      refine wp_s (i := .iconst (-1)) (n := 1) (pc' := 17) (st' := [.int (-1)]) rfl rfl ?_
      refine wp_r (i := .ireturn) (n := 1) (v := some (.int (-1))) rfl rfl ?_
      exact ⟨rfl, pk_ok0⟩
    · skip
      have q2 : (n).toInt ≥ 0 := by have := lc_f_lt hc2; simpa using this
      exfalso; omega
  · skip
    have q1 : (n).toInt ≥ 0 := by have := mc_f_lt hc1; simpa using this
    show mm_Wp _ _ _ 4 _ _ _ _
    refine wp_s (i := .iload_n 1) (n := 1) (pc' := 5) (st' := [.int n]) rfl rfl ?_
    refine wp_s (i := .aload_n 0) (n := 1) (pc' := 6) (st' := [.ref 0, .int n]) rfl rfl ?_
    refine wp_gf (idx := 24) (a := 0) (v := .ref 25) (pc' := 9) rfl rfl hb_0 rfl rfl ?_
    refine wp_gf (idx := 117) (a := 25) (v := .int 0) (pc' := 12) rfl rfl hb_25 rfl rfl ?_
    refine wp_ic (t := 19) (st := []) rfl rfl (fun hc3 => ?_) (fun hc3 => ?_)
    · skip
      have q3 : (n).toInt ≥ 0 := by have := mc_t_ge hc3; simpa using this
      show mm_Wp _ _ _ 19 _ _ _ _
      refine wp_s (i := .iconst 0) (n := 1) (pc' := 20) (st' := [.int 0]) rfl rfl ?_
      refine wp_r (i := .ireturn) (n := 1) (v := some (.int 0)) rfl rfl ?_
      show mm_Wp X 12 mm_r85 5 [some (.ref 0), some (.int n)] [.int 0] _ _
      refine wp_s (i := .ifCond .eq 11) (n := 3) (pc' := 16) (st' := []) rfl rfl ?_
      refine wp_s (i := .iconst (-1)) (n := 1) (pc' := 17) (st' := [.int (-1)]) rfl rfl ?_
      refine wp_r (i := .ireturn) (n := 1) (v := some (.int (-1))) rfl rfl ?_
      refine ⟨(-1), rfl, ⟨_, hb_114⟩, ?_⟩
      show mm_Wp X 12 mm_r170 0 [some (.ref 114), some (.int n)] [] _ _
      refine wp_s (i := .aload_n 0) (n := 1) (pc' := 1) (st' := [.ref 114]) rfl rfl ?_
      refine wp_s (i := .iload_n 1) (n := 1) (pc' := 2) (st' := [.int n, .ref 114]) rfl rfl ?_
      refine wp_c (i := .invokevirtual 243) (n := 3) (Dq := 11) (r' := mm_r140) (as := [.ref 114, .int n]) (rest := []) (ls' := [some (.ref 114), some (.int n)]) rfl rfl rfl ?_
      refine wp_s (i := .iload_n 1) (n := 1) (pc' := 1) (st' := [.int n]) rfl rfl ?_
      refine wp_s (i := .i2l) (n := 1) (pc' := 2) (st' := [.long ((n).toInt64)]) rfl rfl ?_
      refine wp_s (i := .lconst 0) (n := 1) (pc' := 3) (st' := [.long 0, .long ((n).toInt64)]) rfl rfl ?_
      refine wp_s (i := .aload_n 0) (n := 1) (pc' := 4) (st' := [.ref 114, .long 0, .long ((n).toInt64)]) rfl rfl ?_
      refine wp_gf (idx := 173) (a := 114) (v := .int 0) (pc' := 7) rfl rfl hb_114 rfl rfl ?_
      refine wp_s (i := .iconst 1) (n := 1) (pc' := 8) (st' := [.int 1, .int 0, .long 0, .long ((n).toInt64)]) rfl rfl ?_
      refine wp_s (i := .isub) (n := 1) (pc' := 9) (st' := [.int (-1), .long 0, .long ((n).toInt64)]) rfl rfl ?_
      refine wp_s (i := .i2l) (n := 1) (pc' := 10) (st' := [.long (-1), .long 0, .long ((n).toInt64)]) rfl rfl ?_
      refine wp_c (i := .invokestatic 81) (n := 3) (Dq := 10) (r' := mm_r120) (as := [.long ((n).toInt64), .long 0, .long (-1)]) (rest := []) (ls' := [some (.long ((n).toInt64)), none, some (.long 0), none, some (.long (-1)), none]) rfl rfl rfl ?_
      refine wp_s (i := .lload_n 0) (n := 1) (pc' := 1) (st' := [.long ((n).toInt64)]) rfl rfl ?_
      refine wp_s (i := .lload_n 2) (n := 1) (pc' := 2) (st' := [.long 0, .long ((n).toInt64)]) rfl rfl ?_
      refine wp_s (i := .lcmp) (n := 1) (pc' := 3) (st' := [.int (lg_cmp ((n).toInt64) 0)]) rfl rfl ?_
      refine wp_if (t := 17) (st := []) rfl rfl (fun hc4 => ?_) (fun hc4 => ?_)
      · skip
        have q4 : (n).toInt < 0 := by have := lc_t_lt hc4; simpa using this
        exfalso; omega
      · skip
        have q4 : (n).toInt ≥ 0 := by have := lc_f_lt hc4; simpa using this
        show mm_Wp _ _ _ 6 _ _ _ _
        refine wp_s (i := .lload_n 0) (n := 1) (pc' := 7) (st' := [.long ((n).toInt64)]) rfl rfl ?_
        refine wp_s (i := .lload 4) (n := 2) (pc' := 9) (st' := [.long (-1), .long ((n).toInt64)]) rfl rfl ?_
        refine wp_s (i := .lcmp) (n := 1) (pc' := 10) (st' := [.int (lg_cmp ((n).toInt64) (-1))]) rfl rfl ?_
        refine wp_if (t := 17) (st := []) rfl rfl (fun hc5 => ?_) (fun hc5 => ?_)
        · skip
          have q5 : (n).toInt > -1 := by have := lc_t_gt hc5; simpa using this
          show mm_Wp _ _ _ 17 _ _ _ _
          refine wp_s (i := .iconst 0) (n := 1) (pc' := 18) (st' := [.int 0]) rfl rfl ?_
          refine wp_r (i := .ireturn) (n := 1) (v := some (.int 0)) rfl rfl ?_
          show mm_Wp X 11 mm_r140 13 [some (.ref 114), some (.int n)] [.int 0] _ _
          refine wp_r (i := .ireturn) (n := 1) (v := some (.int 0)) rfl rfl ?_
          show mm_Wp X 12 mm_r170 5 [some (.ref 114), some (.int n)] [.int 0] _ _
          refine wp_s (i := .ifCond .eq 11) (n := 3) (pc' := 16) (st' := []) rfl rfl ?_
          refine wp_s (i := .iconst (-1)) (n := 1) (pc' := 17) (st' := [.int (-1)]) rfl rfl ?_
          refine wp_r (i := .ireturn) (n := 1) (v := some (.int (-1))) rfl rfl ?_
          exact ⟨rfl, pk_ok0⟩
        · skip
          have q5 : (n).toInt ≤ -1 := by have := lc_f_gt hc5; simpa using this
          exfalso; omega
    · skip
      have q3 : (n).toInt < 0 := by have := mc_f_ge hc3; simpa using this
      exfalso; omega
set_option maxRecDepth 20000 in
set_option maxHeartbeats 4000000 in
theorem pk_21 (X : Option (List Int32)) (n w : Int32) : mm_Wp X 12 mm_r86 0 [some (.ref 0), some (.int n), some (.int w)] [] hp_0 (fun v1 h1 => ∃ x : Int32, v1 = some (.int x) ∧ (∃ fs, h1[114]? = some (.inr (10, fs))) ∧ mm_Wp X 12 mm_r172 0 [some (.ref 114), some (.int n), some (.int w)] [] h1 (fun v2 h2 => v2 = some (.int x) ∧ pk_ok h2)) := by
  refine wp_s (i := .aload_n 0) (n := 1) (pc' := 1) (st' := [.ref 0]) rfl rfl ?_
  refine wp_s (i := .iload_n 1) (n := 1) (pc' := 2) (st' := [.int n, .ref 0]) rfl rfl ?_
  refine wp_c (i := .invokevirtual 220) (n := 3) (Dq := 11) (r' := mm_r105) (as := [.ref 0, .int n]) (rest := []) (ls' := [some (.ref 0), some (.int n)]) rfl rfl rfl ?_
  refine wp_s (i := .iload_n 1) (n := 1) (pc' := 1) (st' := [.int n]) rfl rfl ?_
  refine wp_if (t := 19) (st := []) rfl rfl (fun hc1 => ?_) (fun hc1 => ?_)
  · skip
    have q1 : (n).toInt < 0 := by have := mc_t_lt hc1; simpa using this
    show mm_Wp _ _ _ 19 _ _ _ _
    refine wp_s (i := .iconst 0) (n := 1) (pc' := 20) (st' := [.int 0]) rfl rfl ?_
    refine wp_r (i := .ireturn) (n := 1) (v := some (.int 0)) rfl rfl ?_
    show mm_Wp X 12 mm_r86 5 [some (.ref 0), some (.int n), some (.int w)] [.int 0] _ _
    refine wp_s (i := .ifCond .eq 12) (n := 3) (pc' := 17) (st' := []) rfl rfl ?_
    refine wp_s (i := .iconst (-1)) (n := 1) (pc' := 18) (st' := [.int (-1)]) rfl rfl ?_
    refine wp_r (i := .ireturn) (n := 1) (v := some (.int (-1))) rfl rfl ?_
    refine ⟨(-1), rfl, ⟨_, hb_114⟩, ?_⟩
    show mm_Wp X 12 mm_r172 0 [some (.ref 114), some (.int n), some (.int w)] [] _ _
    refine wp_s (i := .aload_n 0) (n := 1) (pc' := 1) (st' := [.ref 114]) rfl rfl ?_
    refine wp_s (i := .iload_n 1) (n := 1) (pc' := 2) (st' := [.int n, .ref 114]) rfl rfl ?_
    refine wp_c (i := .invokevirtual 243) (n := 3) (Dq := 11) (r' := mm_r140) (as := [.ref 114, .int n]) (rest := []) (ls' := [some (.ref 114), some (.int n)]) rfl rfl rfl ?_
    refine wp_s (i := .iload_n 1) (n := 1) (pc' := 1) (st' := [.int n]) rfl rfl ?_
    refine wp_s (i := .i2l) (n := 1) (pc' := 2) (st' := [.long ((n).toInt64)]) rfl rfl ?_
    refine wp_s (i := .lconst 0) (n := 1) (pc' := 3) (st' := [.long 0, .long ((n).toInt64)]) rfl rfl ?_
    refine wp_s (i := .aload_n 0) (n := 1) (pc' := 4) (st' := [.ref 114, .long 0, .long ((n).toInt64)]) rfl rfl ?_
    refine wp_gf (idx := 173) (a := 114) (v := .int 0) (pc' := 7) rfl rfl hb_114 rfl rfl ?_
    refine wp_s (i := .iconst 1) (n := 1) (pc' := 8) (st' := [.int 1, .int 0, .long 0, .long ((n).toInt64)]) rfl rfl ?_
    refine wp_s (i := .isub) (n := 1) (pc' := 9) (st' := [.int (-1), .long 0, .long ((n).toInt64)]) rfl rfl ?_
    refine wp_s (i := .i2l) (n := 1) (pc' := 10) (st' := [.long (-1), .long 0, .long ((n).toInt64)]) rfl rfl ?_
    refine wp_c (i := .invokestatic 81) (n := 3) (Dq := 10) (r' := mm_r120) (as := [.long ((n).toInt64), .long 0, .long (-1)]) (rest := []) (ls' := [some (.long ((n).toInt64)), none, some (.long 0), none, some (.long (-1)), none]) rfl rfl rfl ?_
    refine wp_s (i := .lload_n 0) (n := 1) (pc' := 1) (st' := [.long ((n).toInt64)]) rfl rfl ?_
    refine wp_s (i := .lload_n 2) (n := 1) (pc' := 2) (st' := [.long 0, .long ((n).toInt64)]) rfl rfl ?_
    refine wp_s (i := .lcmp) (n := 1) (pc' := 3) (st' := [.int (lg_cmp ((n).toInt64) 0)]) rfl rfl ?_
    refine wp_if (t := 17) (st := []) rfl rfl (fun hc2 => ?_) (fun hc2 => ?_)
    · skip
      have q2 : (n).toInt < 0 := by have := lc_t_lt hc2; simpa using this
      show mm_Wp _ _ _ 17 _ _ _ _
      refine wp_s (i := .iconst 0) (n := 1) (pc' := 18) (st' := [.int 0]) rfl rfl ?_
      refine wp_r (i := .ireturn) (n := 1) (v := some (.int 0)) rfl rfl ?_
      show mm_Wp X 11 mm_r140 13 [some (.ref 114), some (.int n)] [.int 0] _ _
      refine wp_r (i := .ireturn) (n := 1) (v := some (.int 0)) rfl rfl ?_
      show mm_Wp X 12 mm_r172 5 [some (.ref 114), some (.int n), some (.int w)] [.int 0] _ _
      refine wp_s (i := .ifCond .eq 15) (n := 3) (pc' := 20) (st' := []) rfl rfl ?_
      refine wp_s (i := .iconst (-1)) (n := 1) (pc' := 21) (st' := [.int (-1)]) rfl rfl ?_
      refine wp_r (i := .ireturn) (n := 1) (v := some (.int (-1))) rfl rfl ?_
      exact ⟨rfl, pk_ok0⟩
    · skip
      have q2 : (n).toInt ≥ 0 := by have := lc_f_lt hc2; simpa using this
      exfalso; omega
  · skip
    have q1 : (n).toInt ≥ 0 := by have := mc_f_lt hc1; simpa using this
    show mm_Wp _ _ _ 4 _ _ _ _
    refine wp_s (i := .iload_n 1) (n := 1) (pc' := 5) (st' := [.int n]) rfl rfl ?_
    refine wp_s (i := .aload_n 0) (n := 1) (pc' := 6) (st' := [.ref 0, .int n]) rfl rfl ?_
    refine wp_gf (idx := 24) (a := 0) (v := .ref 25) (pc' := 9) rfl rfl hb_0 rfl rfl ?_
    refine wp_gf (idx := 117) (a := 25) (v := .int 0) (pc' := 12) rfl rfl hb_25 rfl rfl ?_
    refine wp_ic (t := 19) (st := []) rfl rfl (fun hc3 => ?_) (fun hc3 => ?_)
    · skip
      have q3 : (n).toInt ≥ 0 := by have := mc_t_ge hc3; simpa using this
      show mm_Wp _ _ _ 19 _ _ _ _
      refine wp_s (i := .iconst 0) (n := 1) (pc' := 20) (st' := [.int 0]) rfl rfl ?_
      refine wp_r (i := .ireturn) (n := 1) (v := some (.int 0)) rfl rfl ?_
      show mm_Wp X 12 mm_r86 5 [some (.ref 0), some (.int n), some (.int w)] [.int 0] _ _
      refine wp_s (i := .ifCond .eq 12) (n := 3) (pc' := 17) (st' := []) rfl rfl ?_
      refine wp_s (i := .iconst (-1)) (n := 1) (pc' := 18) (st' := [.int (-1)]) rfl rfl ?_
      refine wp_r (i := .ireturn) (n := 1) (v := some (.int (-1))) rfl rfl ?_
      refine ⟨(-1), rfl, ⟨_, hb_114⟩, ?_⟩
      show mm_Wp X 12 mm_r172 0 [some (.ref 114), some (.int n), some (.int w)] [] _ _
      refine wp_s (i := .aload_n 0) (n := 1) (pc' := 1) (st' := [.ref 114]) rfl rfl ?_
      refine wp_s (i := .iload_n 1) (n := 1) (pc' := 2) (st' := [.int n, .ref 114]) rfl rfl ?_
      refine wp_c (i := .invokevirtual 243) (n := 3) (Dq := 11) (r' := mm_r140) (as := [.ref 114, .int n]) (rest := []) (ls' := [some (.ref 114), some (.int n)]) rfl rfl rfl ?_
      refine wp_s (i := .iload_n 1) (n := 1) (pc' := 1) (st' := [.int n]) rfl rfl ?_
      refine wp_s (i := .i2l) (n := 1) (pc' := 2) (st' := [.long ((n).toInt64)]) rfl rfl ?_
      refine wp_s (i := .lconst 0) (n := 1) (pc' := 3) (st' := [.long 0, .long ((n).toInt64)]) rfl rfl ?_
      refine wp_s (i := .aload_n 0) (n := 1) (pc' := 4) (st' := [.ref 114, .long 0, .long ((n).toInt64)]) rfl rfl ?_
      refine wp_gf (idx := 173) (a := 114) (v := .int 0) (pc' := 7) rfl rfl hb_114 rfl rfl ?_
      refine wp_s (i := .iconst 1) (n := 1) (pc' := 8) (st' := [.int 1, .int 0, .long 0, .long ((n).toInt64)]) rfl rfl ?_
      refine wp_s (i := .isub) (n := 1) (pc' := 9) (st' := [.int (-1), .long 0, .long ((n).toInt64)]) rfl rfl ?_
      refine wp_s (i := .i2l) (n := 1) (pc' := 10) (st' := [.long (-1), .long 0, .long ((n).toInt64)]) rfl rfl ?_
      refine wp_c (i := .invokestatic 81) (n := 3) (Dq := 10) (r' := mm_r120) (as := [.long ((n).toInt64), .long 0, .long (-1)]) (rest := []) (ls' := [some (.long ((n).toInt64)), none, some (.long 0), none, some (.long (-1)), none]) rfl rfl rfl ?_
      refine wp_s (i := .lload_n 0) (n := 1) (pc' := 1) (st' := [.long ((n).toInt64)]) rfl rfl ?_
      refine wp_s (i := .lload_n 2) (n := 1) (pc' := 2) (st' := [.long 0, .long ((n).toInt64)]) rfl rfl ?_
      refine wp_s (i := .lcmp) (n := 1) (pc' := 3) (st' := [.int (lg_cmp ((n).toInt64) 0)]) rfl rfl ?_
      refine wp_if (t := 17) (st := []) rfl rfl (fun hc4 => ?_) (fun hc4 => ?_)
      · skip
        have q4 : (n).toInt < 0 := by have := lc_t_lt hc4; simpa using this
        exfalso; omega
      · skip
        have q4 : (n).toInt ≥ 0 := by have := lc_f_lt hc4; simpa using this
        show mm_Wp _ _ _ 6 _ _ _ _
        refine wp_s (i := .lload_n 0) (n := 1) (pc' := 7) (st' := [.long ((n).toInt64)]) rfl rfl ?_
        refine wp_s (i := .lload 4) (n := 2) (pc' := 9) (st' := [.long (-1), .long ((n).toInt64)]) rfl rfl ?_
        refine wp_s (i := .lcmp) (n := 1) (pc' := 10) (st' := [.int (lg_cmp ((n).toInt64) (-1))]) rfl rfl ?_
        refine wp_if (t := 17) (st := []) rfl rfl (fun hc5 => ?_) (fun hc5 => ?_)
        · skip
          have q5 : (n).toInt > -1 := by have := lc_t_gt hc5; simpa using this
          show mm_Wp _ _ _ 17 _ _ _ _
          refine wp_s (i := .iconst 0) (n := 1) (pc' := 18) (st' := [.int 0]) rfl rfl ?_
          refine wp_r (i := .ireturn) (n := 1) (v := some (.int 0)) rfl rfl ?_
          show mm_Wp X 11 mm_r140 13 [some (.ref 114), some (.int n)] [.int 0] _ _
          refine wp_r (i := .ireturn) (n := 1) (v := some (.int 0)) rfl rfl ?_
          show mm_Wp X 12 mm_r172 5 [some (.ref 114), some (.int n), some (.int w)] [.int 0] _ _
          refine wp_s (i := .ifCond .eq 15) (n := 3) (pc' := 20) (st' := []) rfl rfl ?_
          refine wp_s (i := .iconst (-1)) (n := 1) (pc' := 21) (st' := [.int (-1)]) rfl rfl ?_
          refine wp_r (i := .ireturn) (n := 1) (v := some (.int (-1))) rfl rfl ?_
          exact ⟨rfl, pk_ok0⟩
        · skip
          have q5 : (n).toInt ≤ -1 := by have := lc_f_gt hc5; simpa using this
          exfalso; omega
    · skip
      have q3 : (n).toInt < 0 := by have := mc_f_ge hc3; simpa using this
      exfalso; omega
set_option maxRecDepth 20000 in
set_option maxHeartbeats 4000000 in
theorem pk_22 (X : Option (List Int32)) (n w : Int32) : mm_Wp X 12 mm_r87 0 [some (.ref 0), some (.int n), some (.int w)] [] hp_0 (fun v1 h1 => ∃ x : Int32, v1 = some (.int x) ∧ (∃ fs, h1[114]? = some (.inr (10, fs))) ∧ mm_Wp X 12 mm_r174 0 [some (.ref 114), some (.int n), some (.int w), none, none, none, none, none] [] h1 (fun v2 h2 => v2 = some (.int x) ∧ pk_ok h2)) := by
  refine wp_s (i := .aload_n 0) (n := 1) (pc' := 1) (st' := [.ref 0]) rfl rfl ?_
  refine wp_s (i := .iload_n 1) (n := 1) (pc' := 2) (st' := [.int n, .ref 0]) rfl rfl ?_
  refine wp_c (i := .invokevirtual 220) (n := 3) (Dq := 11) (r' := mm_r105) (as := [.ref 0, .int n]) (rest := []) (ls' := [some (.ref 0), some (.int n)]) rfl rfl rfl ?_
  refine wp_s (i := .iload_n 1) (n := 1) (pc' := 1) (st' := [.int n]) rfl rfl ?_
  refine wp_if (t := 19) (st := []) rfl rfl (fun hc1 => ?_) (fun hc1 => ?_)
  · skip
    have q1 : (n).toInt < 0 := by have := mc_t_lt hc1; simpa using this
    show mm_Wp _ _ _ 19 _ _ _ _
    refine wp_s (i := .iconst 0) (n := 1) (pc' := 20) (st' := [.int 0]) rfl rfl ?_
    refine wp_r (i := .ireturn) (n := 1) (v := some (.int 0)) rfl rfl ?_
    show mm_Wp X 12 mm_r87 5 [some (.ref 0), some (.int n), some (.int w)] [.int 0] _ _
    refine wp_s (i := .ifCond .eq 12) (n := 3) (pc' := 17) (st' := []) rfl rfl ?_
    refine wp_s (i := .iconst (-1)) (n := 1) (pc' := 18) (st' := [.int (-1)]) rfl rfl ?_
    refine wp_r (i := .ireturn) (n := 1) (v := some (.int (-1))) rfl rfl ?_
    refine ⟨(-1), rfl, ⟨_, hb_114⟩, ?_⟩
    show mm_Wp X 12 mm_r174 0 [some (.ref 114), some (.int n), some (.int w), none, none, none, none, none] [] _ _
    refine wp_s (i := .aload_n 0) (n := 1) (pc' := 1) (st' := [.ref 114]) rfl rfl ?_
    refine wp_s (i := .iload_n 1) (n := 1) (pc' := 2) (st' := [.int n, .ref 114]) rfl rfl ?_
    refine wp_c (i := .invokevirtual 243) (n := 3) (Dq := 11) (r' := mm_r140) (as := [.ref 114, .int n]) (rest := []) (ls' := [some (.ref 114), some (.int n)]) rfl rfl rfl ?_
    refine wp_s (i := .iload_n 1) (n := 1) (pc' := 1) (st' := [.int n]) rfl rfl ?_
    refine wp_s (i := .i2l) (n := 1) (pc' := 2) (st' := [.long ((n).toInt64)]) rfl rfl ?_
    refine wp_s (i := .lconst 0) (n := 1) (pc' := 3) (st' := [.long 0, .long ((n).toInt64)]) rfl rfl ?_
    refine wp_s (i := .aload_n 0) (n := 1) (pc' := 4) (st' := [.ref 114, .long 0, .long ((n).toInt64)]) rfl rfl ?_
    refine wp_gf (idx := 173) (a := 114) (v := .int 0) (pc' := 7) rfl rfl hb_114 rfl rfl ?_
    refine wp_s (i := .iconst 1) (n := 1) (pc' := 8) (st' := [.int 1, .int 0, .long 0, .long ((n).toInt64)]) rfl rfl ?_
    refine wp_s (i := .isub) (n := 1) (pc' := 9) (st' := [.int (-1), .long 0, .long ((n).toInt64)]) rfl rfl ?_
    refine wp_s (i := .i2l) (n := 1) (pc' := 10) (st' := [.long (-1), .long 0, .long ((n).toInt64)]) rfl rfl ?_
    refine wp_c (i := .invokestatic 81) (n := 3) (Dq := 10) (r' := mm_r120) (as := [.long ((n).toInt64), .long 0, .long (-1)]) (rest := []) (ls' := [some (.long ((n).toInt64)), none, some (.long 0), none, some (.long (-1)), none]) rfl rfl rfl ?_
    refine wp_s (i := .lload_n 0) (n := 1) (pc' := 1) (st' := [.long ((n).toInt64)]) rfl rfl ?_
    refine wp_s (i := .lload_n 2) (n := 1) (pc' := 2) (st' := [.long 0, .long ((n).toInt64)]) rfl rfl ?_
    refine wp_s (i := .lcmp) (n := 1) (pc' := 3) (st' := [.int (lg_cmp ((n).toInt64) 0)]) rfl rfl ?_
    refine wp_if (t := 17) (st := []) rfl rfl (fun hc2 => ?_) (fun hc2 => ?_)
    · skip
      have q2 : (n).toInt < 0 := by have := lc_t_lt hc2; simpa using this
      show mm_Wp _ _ _ 17 _ _ _ _
      refine wp_s (i := .iconst 0) (n := 1) (pc' := 18) (st' := [.int 0]) rfl rfl ?_
      refine wp_r (i := .ireturn) (n := 1) (v := some (.int 0)) rfl rfl ?_
      show mm_Wp X 11 mm_r140 13 [some (.ref 114), some (.int n)] [.int 0] _ _
      refine wp_r (i := .ireturn) (n := 1) (v := some (.int 0)) rfl rfl ?_
      show mm_Wp X 12 mm_r174 5 [some (.ref 114), some (.int n), some (.int w), none, none, none, none, none] [.int 0] _ _
      refine wp_s (i := .ifCond .eq 13) (n := 3) (pc' := 18) (st' := []) rfl rfl ?_
      refine wp_s (i := .iconst (-1)) (n := 1) (pc' := 19) (st' := [.int (-1)]) rfl rfl ?_
      refine wp_r (i := .ireturn) (n := 1) (v := some (.int (-1))) rfl rfl ?_
      exact ⟨rfl, pk_ok0⟩
    · skip
      have q2 : (n).toInt ≥ 0 := by have := lc_f_lt hc2; simpa using this
      exfalso; omega
  · skip
    have q1 : (n).toInt ≥ 0 := by have := mc_f_lt hc1; simpa using this
    show mm_Wp _ _ _ 4 _ _ _ _
    refine wp_s (i := .iload_n 1) (n := 1) (pc' := 5) (st' := [.int n]) rfl rfl ?_
    refine wp_s (i := .aload_n 0) (n := 1) (pc' := 6) (st' := [.ref 0, .int n]) rfl rfl ?_
    refine wp_gf (idx := 24) (a := 0) (v := .ref 25) (pc' := 9) rfl rfl hb_0 rfl rfl ?_
    refine wp_gf (idx := 117) (a := 25) (v := .int 0) (pc' := 12) rfl rfl hb_25 rfl rfl ?_
    refine wp_ic (t := 19) (st := []) rfl rfl (fun hc3 => ?_) (fun hc3 => ?_)
    · skip
      have q3 : (n).toInt ≥ 0 := by have := mc_t_ge hc3; simpa using this
      show mm_Wp _ _ _ 19 _ _ _ _
      refine wp_s (i := .iconst 0) (n := 1) (pc' := 20) (st' := [.int 0]) rfl rfl ?_
      refine wp_r (i := .ireturn) (n := 1) (v := some (.int 0)) rfl rfl ?_
      show mm_Wp X 12 mm_r87 5 [some (.ref 0), some (.int n), some (.int w)] [.int 0] _ _
      refine wp_s (i := .ifCond .eq 12) (n := 3) (pc' := 17) (st' := []) rfl rfl ?_
      refine wp_s (i := .iconst (-1)) (n := 1) (pc' := 18) (st' := [.int (-1)]) rfl rfl ?_
      refine wp_r (i := .ireturn) (n := 1) (v := some (.int (-1))) rfl rfl ?_
      refine ⟨(-1), rfl, ⟨_, hb_114⟩, ?_⟩
      show mm_Wp X 12 mm_r174 0 [some (.ref 114), some (.int n), some (.int w), none, none, none, none, none] [] _ _
      refine wp_s (i := .aload_n 0) (n := 1) (pc' := 1) (st' := [.ref 114]) rfl rfl ?_
      refine wp_s (i := .iload_n 1) (n := 1) (pc' := 2) (st' := [.int n, .ref 114]) rfl rfl ?_
      refine wp_c (i := .invokevirtual 243) (n := 3) (Dq := 11) (r' := mm_r140) (as := [.ref 114, .int n]) (rest := []) (ls' := [some (.ref 114), some (.int n)]) rfl rfl rfl ?_
      refine wp_s (i := .iload_n 1) (n := 1) (pc' := 1) (st' := [.int n]) rfl rfl ?_
      refine wp_s (i := .i2l) (n := 1) (pc' := 2) (st' := [.long ((n).toInt64)]) rfl rfl ?_
      refine wp_s (i := .lconst 0) (n := 1) (pc' := 3) (st' := [.long 0, .long ((n).toInt64)]) rfl rfl ?_
      refine wp_s (i := .aload_n 0) (n := 1) (pc' := 4) (st' := [.ref 114, .long 0, .long ((n).toInt64)]) rfl rfl ?_
      refine wp_gf (idx := 173) (a := 114) (v := .int 0) (pc' := 7) rfl rfl hb_114 rfl rfl ?_
      refine wp_s (i := .iconst 1) (n := 1) (pc' := 8) (st' := [.int 1, .int 0, .long 0, .long ((n).toInt64)]) rfl rfl ?_
      refine wp_s (i := .isub) (n := 1) (pc' := 9) (st' := [.int (-1), .long 0, .long ((n).toInt64)]) rfl rfl ?_
      refine wp_s (i := .i2l) (n := 1) (pc' := 10) (st' := [.long (-1), .long 0, .long ((n).toInt64)]) rfl rfl ?_
      refine wp_c (i := .invokestatic 81) (n := 3) (Dq := 10) (r' := mm_r120) (as := [.long ((n).toInt64), .long 0, .long (-1)]) (rest := []) (ls' := [some (.long ((n).toInt64)), none, some (.long 0), none, some (.long (-1)), none]) rfl rfl rfl ?_
      refine wp_s (i := .lload_n 0) (n := 1) (pc' := 1) (st' := [.long ((n).toInt64)]) rfl rfl ?_
      refine wp_s (i := .lload_n 2) (n := 1) (pc' := 2) (st' := [.long 0, .long ((n).toInt64)]) rfl rfl ?_
      refine wp_s (i := .lcmp) (n := 1) (pc' := 3) (st' := [.int (lg_cmp ((n).toInt64) 0)]) rfl rfl ?_
      refine wp_if (t := 17) (st := []) rfl rfl (fun hc4 => ?_) (fun hc4 => ?_)
      · skip
        have q4 : (n).toInt < 0 := by have := lc_t_lt hc4; simpa using this
        exfalso; omega
      · skip
        have q4 : (n).toInt ≥ 0 := by have := lc_f_lt hc4; simpa using this
        show mm_Wp _ _ _ 6 _ _ _ _
        refine wp_s (i := .lload_n 0) (n := 1) (pc' := 7) (st' := [.long ((n).toInt64)]) rfl rfl ?_
        refine wp_s (i := .lload 4) (n := 2) (pc' := 9) (st' := [.long (-1), .long ((n).toInt64)]) rfl rfl ?_
        refine wp_s (i := .lcmp) (n := 1) (pc' := 10) (st' := [.int (lg_cmp ((n).toInt64) (-1))]) rfl rfl ?_
        refine wp_if (t := 17) (st := []) rfl rfl (fun hc5 => ?_) (fun hc5 => ?_)
        · skip
          have q5 : (n).toInt > -1 := by have := lc_t_gt hc5; simpa using this
          show mm_Wp _ _ _ 17 _ _ _ _
          refine wp_s (i := .iconst 0) (n := 1) (pc' := 18) (st' := [.int 0]) rfl rfl ?_
          refine wp_r (i := .ireturn) (n := 1) (v := some (.int 0)) rfl rfl ?_
          show mm_Wp X 11 mm_r140 13 [some (.ref 114), some (.int n)] [.int 0] _ _
          refine wp_r (i := .ireturn) (n := 1) (v := some (.int 0)) rfl rfl ?_
          show mm_Wp X 12 mm_r174 5 [some (.ref 114), some (.int n), some (.int w), none, none, none, none, none] [.int 0] _ _
          refine wp_s (i := .ifCond .eq 13) (n := 3) (pc' := 18) (st' := []) rfl rfl ?_
          refine wp_s (i := .iconst (-1)) (n := 1) (pc' := 19) (st' := [.int (-1)]) rfl rfl ?_
          refine wp_r (i := .ireturn) (n := 1) (v := some (.int (-1))) rfl rfl ?_
          exact ⟨rfl, pk_ok0⟩
        · skip
          have q5 : (n).toInt ≤ -1 := by have := lc_f_gt hc5; simpa using this
          exfalso; omega
    · skip
      have q3 : (n).toInt < 0 := by have := mc_f_ge hc3; simpa using this
      exfalso; omega
set_option maxRecDepth 20000 in
set_option maxHeartbeats 4000000 in
theorem pk_23_0 (X : Option (List Int32))  : mm_Wp X 12 mm_r88 0 [some (.ref 0), some (.int 0)] [] hp_0 (fun v1 h1 => ∃ x : Int32, v1 = some (.int x) ∧ (∃ fs, h1[114]? = some (.inr (10, fs))) ∧ mm_Wp X 12 mm_r175 0 [some (.ref 114), some (.int 0), none, none, none, none, none, none] [] h1 (fun v2 h2 => v2 = some (.int x) ∧ pk_ok h2)) := by
  refine wp_x 16 (v := some (.int (-2))) (h' := hp_0) (mm_dec (by decide +kernel)) ?_
  refine ⟨(-2), rfl, ⟨_, hb_114⟩, ?_⟩
  show mm_Wp X 12 mm_r175 0 [some (.ref 114), some (.int 0), none, none, none, none, none, none] [] _ _
  refine wp_x 27 (v := some (.int (-2))) (h' := hp_0) (mm_dec (by decide +kernel)) ?_
  exact ⟨rfl, pk_ok0⟩
set_option maxRecDepth 20000 in
set_option maxHeartbeats 4000000 in
theorem pk_23_1 (X : Option (List Int32))  : mm_Wp X 12 mm_r88 0 [some (.ref 0), some (.int 1)] [] hp_0 (fun v1 h1 => ∃ x : Int32, v1 = some (.int x) ∧ (∃ fs, h1[114]? = some (.inr (10, fs))) ∧ mm_Wp X 12 mm_r175 0 [some (.ref 114), some (.int 1), none, none, none, none, none, none] [] h1 (fun v2 h2 => v2 = some (.int x) ∧ pk_ok h2)) := by
  refine wp_x 16 (v := some (.int (-2))) (h' := hp_0) (mm_dec (by decide +kernel)) ?_
  refine ⟨(-2), rfl, ⟨_, hb_114⟩, ?_⟩
  show mm_Wp X 12 mm_r175 0 [some (.ref 114), some (.int 1), none, none, none, none, none, none] [] _ _
  refine wp_x 27 (v := some (.int (-2))) (h' := hp_0) (mm_dec (by decide +kernel)) ?_
  exact ⟨rfl, pk_ok0⟩
set_option maxRecDepth 20000 in
set_option maxHeartbeats 4000000 in
theorem pk_23_o (X : Option (List Int32)) (n : Int32) (he0 : ¬ n = 0) (he1 : ¬ n = 1) : mm_Wp X 12 mm_r88 0 [some (.ref 0), some (.int n)] [] hp_0 (fun v1 h1 => ∃ x : Int32, v1 = some (.int x) ∧ (∃ fs, h1[114]? = some (.inr (10, fs))) ∧ mm_Wp X 12 mm_r175 0 [some (.ref 114), some (.int n), none, none, none, none, none, none] [] h1 (fun v2 h2 => v2 = some (.int x) ∧ pk_ok h2)) := by
  have hf0 : n.toInt ≠ 0 := fun q => he0 (Int32.toInt_inj.mp (by rw [q]; rfl))
  have hf1 : n.toInt ≠ 1 := fun q => he1 (Int32.toInt_inj.mp (by rw [q]; rfl))
  refine wp_s (i := .iload_n 1) (n := 1) (pc' := 1) (st' := [.int n]) rfl rfl ?_
  refine wp_if (t := 9) (st := []) rfl rfl (fun hc1 => ?_) (fun hc1 => ?_)
  · skip
    have q1 : (n).toInt < 0 := by have := mc_t_lt hc1; simpa using this
    show mm_Wp _ _ _ 9 _ _ _ _
    refine wp_s (i := .iconst (-1)) (n := 1) (pc' := 10) (st' := [.int (-1)]) rfl rfl ?_
    refine wp_r (i := .ireturn) (n := 1) (v := some (.int (-1))) rfl rfl ?_
    refine ⟨(-1), rfl, ⟨_, hb_114⟩, ?_⟩
    show mm_Wp X 12 mm_r175 0 [some (.ref 114), some (.int n), none, none, none, none, none, none] [] _ _
    refine wp_s (i := .iload_n 1) (n := 1) (pc' := 1) (st' := [.int n]) rfl rfl ?_
    refine wp_s (i := .i2l) (n := 1) (pc' := 2) (st' := [.long ((n).toInt64)]) rfl rfl ?_
    refine wp_s (i := .lconst 0) (n := 1) (pc' := 3) (st' := [.long 0, .long ((n).toInt64)]) rfl rfl ?_
    refine wp_s (i := .lconst 1) (n := 1) (pc' := 4) (st' := [.long 1, .long 0, .long ((n).toInt64)]) rfl rfl ?_
    refine wp_c (i := .invokestatic 81) (n := 3) (Dq := 11) (r' := mm_r120) (as := [.long ((n).toInt64), .long 0, .long 1]) (rest := []) (ls' := [some (.long ((n).toInt64)), none, some (.long 0), none, some (.long 1), none]) rfl rfl rfl ?_
    refine wp_s (i := .lload_n 0) (n := 1) (pc' := 1) (st' := [.long ((n).toInt64)]) rfl rfl ?_
    refine wp_s (i := .lload_n 2) (n := 1) (pc' := 2) (st' := [.long 0, .long ((n).toInt64)]) rfl rfl ?_
    refine wp_s (i := .lcmp) (n := 1) (pc' := 3) (st' := [.int (lg_cmp ((n).toInt64) 0)]) rfl rfl ?_
    refine wp_if (t := 17) (st := []) rfl rfl (fun hc2 => ?_) (fun hc2 => ?_)
    · skip
      have q2 : (n).toInt < 0 := by have := lc_t_lt hc2; simpa using this
      show mm_Wp _ _ _ 17 _ _ _ _
      refine wp_s (i := .iconst 0) (n := 1) (pc' := 18) (st' := [.int 0]) rfl rfl ?_
      refine wp_r (i := .ireturn) (n := 1) (v := some (.int 0)) rfl rfl ?_
      show mm_Wp X 12 mm_r175 7 [some (.ref 114), some (.int n), none, none, none, none, none, none] [.int 0] _ _
      refine wp_s (i := .ifCond .ne 5) (n := 3) (pc' := 10) (st' := []) rfl rfl ?_
      refine wp_s (i := .iconst (-1)) (n := 1) (pc' := 11) (st' := [.int (-1)]) rfl rfl ?_
      refine wp_r (i := .ireturn) (n := 1) (v := some (.int (-1))) rfl rfl ?_
      exact ⟨rfl, pk_ok0⟩
    · skip
      have q2 : (n).toInt ≥ 0 := by have := lc_f_lt hc2; simpa using this
      exfalso; omega
  · skip
    have q1 : (n).toInt ≥ 0 := by have := mc_f_lt hc1; simpa using this
    show mm_Wp _ _ _ 4 _ _ _ _
    refine wp_s (i := .iload_n 1) (n := 1) (pc' := 5) (st' := [.int n]) rfl rfl ?_
    refine wp_s (i := .iconst 1) (n := 1) (pc' := 6) (st' := [.int 1, .int n]) rfl rfl ?_
    refine wp_ic (t := 11) (st := []) rfl rfl (fun hc3 => ?_) (fun hc3 => ?_)
    · skip
      have q3 : (n).toInt ≤ 1 := by have := mc_t_le hc3; simpa using this
      exfalso; omega
    · skip
      have q3 : (n).toInt > 1 := by have := mc_f_le hc3; simpa using this
      show mm_Wp _ _ _ 9 _ _ _ _
      refine wp_s (i := .iconst (-1)) (n := 1) (pc' := 10) (st' := [.int (-1)]) rfl rfl ?_
      refine wp_r (i := .ireturn) (n := 1) (v := some (.int (-1))) rfl rfl ?_
      refine ⟨(-1), rfl, ⟨_, hb_114⟩, ?_⟩
      show mm_Wp X 12 mm_r175 0 [some (.ref 114), some (.int n), none, none, none, none, none, none] [] _ _
      refine wp_s (i := .iload_n 1) (n := 1) (pc' := 1) (st' := [.int n]) rfl rfl ?_
      refine wp_s (i := .i2l) (n := 1) (pc' := 2) (st' := [.long ((n).toInt64)]) rfl rfl ?_
      refine wp_s (i := .lconst 0) (n := 1) (pc' := 3) (st' := [.long 0, .long ((n).toInt64)]) rfl rfl ?_
      refine wp_s (i := .lconst 1) (n := 1) (pc' := 4) (st' := [.long 1, .long 0, .long ((n).toInt64)]) rfl rfl ?_
      refine wp_c (i := .invokestatic 81) (n := 3) (Dq := 11) (r' := mm_r120) (as := [.long ((n).toInt64), .long 0, .long 1]) (rest := []) (ls' := [some (.long ((n).toInt64)), none, some (.long 0), none, some (.long 1), none]) rfl rfl rfl ?_
      refine wp_s (i := .lload_n 0) (n := 1) (pc' := 1) (st' := [.long ((n).toInt64)]) rfl rfl ?_
      refine wp_s (i := .lload_n 2) (n := 1) (pc' := 2) (st' := [.long 0, .long ((n).toInt64)]) rfl rfl ?_
      refine wp_s (i := .lcmp) (n := 1) (pc' := 3) (st' := [.int (lg_cmp ((n).toInt64) 0)]) rfl rfl ?_
      refine wp_if (t := 17) (st := []) rfl rfl (fun hc4 => ?_) (fun hc4 => ?_)
      · skip
        have q4 : (n).toInt < 0 := by have := lc_t_lt hc4; simpa using this
        exfalso; omega
      · skip
        have q4 : (n).toInt ≥ 0 := by have := lc_f_lt hc4; simpa using this
        show mm_Wp _ _ _ 6 _ _ _ _
        refine wp_s (i := .lload_n 0) (n := 1) (pc' := 7) (st' := [.long ((n).toInt64)]) rfl rfl ?_
        refine wp_s (i := .lload 4) (n := 2) (pc' := 9) (st' := [.long 1, .long ((n).toInt64)]) rfl rfl ?_
        refine wp_s (i := .lcmp) (n := 1) (pc' := 10) (st' := [.int (lg_cmp ((n).toInt64) 1)]) rfl rfl ?_
        refine wp_if (t := 17) (st := []) rfl rfl (fun hc5 => ?_) (fun hc5 => ?_)
        · skip
          have q5 : (n).toInt > 1 := by have := lc_t_gt hc5; simpa using this
          show mm_Wp _ _ _ 17 _ _ _ _
          refine wp_s (i := .iconst 0) (n := 1) (pc' := 18) (st' := [.int 0]) rfl rfl ?_
          refine wp_r (i := .ireturn) (n := 1) (v := some (.int 0)) rfl rfl ?_
          show mm_Wp X 12 mm_r175 7 [some (.ref 114), some (.int n), none, none, none, none, none, none] [.int 0] _ _
          refine wp_s (i := .ifCond .ne 5) (n := 3) (pc' := 10) (st' := []) rfl rfl ?_
          refine wp_s (i := .iconst (-1)) (n := 1) (pc' := 11) (st' := [.int (-1)]) rfl rfl ?_
          refine wp_r (i := .ireturn) (n := 1) (v := some (.int (-1))) rfl rfl ?_
          exact ⟨rfl, pk_ok0⟩
        · skip
          have q5 : (n).toInt ≤ 1 := by have := lc_f_gt hc5; simpa using this
          exfalso; omega
theorem pk_23 (X : Option (List Int32)) (n : Int32) : mm_Wp X 12 mm_r88 0 [some (.ref 0), some (.int n)] [] hp_0 (fun v1 h1 => ∃ x : Int32, v1 = some (.int x) ∧ (∃ fs, h1[114]? = some (.inr (10, fs))) ∧ mm_Wp X 12 mm_r175 0 [some (.ref 114), some (.int n), none, none, none, none, none, none] [] h1 (fun v2 h2 => v2 = some (.int x) ∧ pk_ok h2)) := by
  by_cases he0 : n = 0
  · subst he0; exact pk_23_0 X 
  by_cases he1 : n = 1
  · subst he1; exact pk_23_1 X 
  exact pk_23_o X n he0 he1
set_option maxRecDepth 20000 in
set_option maxHeartbeats 4000000 in
theorem pk_24 (X : Option (List Int32)) (n w : Int32) : mm_Wp X 12 mm_r89 0 [some (.ref 0), some (.int n), some (.int w)] [] hp_0 (fun v1 h1 => ∃ x : Int32, v1 = some (.int x) ∧ (∃ fs, h1[114]? = some (.inr (10, fs))) ∧ mm_Wp X 12 mm_r177 0 [some (.ref 114), some (.int n), some (.int w), none, none, none, none, none, none, none, none] [] h1 (fun v2 h2 => v2 = some (.int x) ∧ pk_ok h2)) := by
  refine wp_s (i := .aload_n 0) (n := 1) (pc' := 1) (st' := [.ref 0]) rfl rfl ?_
  refine wp_s (i := .iload_n 1) (n := 1) (pc' := 2) (st' := [.int n, .ref 0]) rfl rfl ?_
  refine wp_c (i := .invokevirtual 220) (n := 3) (Dq := 11) (r' := mm_r105) (as := [.ref 0, .int n]) (rest := []) (ls' := [some (.ref 0), some (.int n)]) rfl rfl rfl ?_
  refine wp_s (i := .iload_n 1) (n := 1) (pc' := 1) (st' := [.int n]) rfl rfl ?_
  refine wp_if (t := 19) (st := []) rfl rfl (fun hc1 => ?_) (fun hc1 => ?_)
  · skip
    have q1 : (n).toInt < 0 := by have := mc_t_lt hc1; simpa using this
    show mm_Wp _ _ _ 19 _ _ _ _
    refine wp_s (i := .iconst 0) (n := 1) (pc' := 20) (st' := [.int 0]) rfl rfl ?_
    refine wp_r (i := .ireturn) (n := 1) (v := some (.int 0)) rfl rfl ?_
    show mm_Wp X 12 mm_r89 5 [some (.ref 0), some (.int n), some (.int w)] [.int 0] _ _
    refine wp_s (i := .ifCond .eq 12) (n := 3) (pc' := 17) (st' := []) rfl rfl ?_
    refine wp_s (i := .iconst (-1)) (n := 1) (pc' := 18) (st' := [.int (-1)]) rfl rfl ?_
    refine wp_r (i := .ireturn) (n := 1) (v := some (.int (-1))) rfl rfl ?_
    refine ⟨(-1), rfl, ⟨_, hb_114⟩, ?_⟩
    show mm_Wp X 12 mm_r177 0 [some (.ref 114), some (.int n), some (.int w), none, none, none, none, none, none, none, none] [] _ _
    refine wp_s (i := .aload_n 0) (n := 1) (pc' := 1) (st' := [.ref 114]) rfl rfl ?_
    refine wp_s (i := .iload_n 1) (n := 1) (pc' := 2) (st' := [.int n, .ref 114]) rfl rfl ?_
    refine wp_c (i := .invokevirtual 243) (n := 3) (Dq := 11) (r' := mm_r140) (as := [.ref 114, .int n]) (rest := []) (ls' := [some (.ref 114), some (.int n)]) rfl rfl rfl ?_
    refine wp_s (i := .iload_n 1) (n := 1) (pc' := 1) (st' := [.int n]) rfl rfl ?_
    refine wp_s (i := .i2l) (n := 1) (pc' := 2) (st' := [.long ((n).toInt64)]) rfl rfl ?_
    refine wp_s (i := .lconst 0) (n := 1) (pc' := 3) (st' := [.long 0, .long ((n).toInt64)]) rfl rfl ?_
    refine wp_s (i := .aload_n 0) (n := 1) (pc' := 4) (st' := [.ref 114, .long 0, .long ((n).toInt64)]) rfl rfl ?_
    refine wp_gf (idx := 173) (a := 114) (v := .int 0) (pc' := 7) rfl rfl hb_114 rfl rfl ?_
    refine wp_s (i := .iconst 1) (n := 1) (pc' := 8) (st' := [.int 1, .int 0, .long 0, .long ((n).toInt64)]) rfl rfl ?_
    refine wp_s (i := .isub) (n := 1) (pc' := 9) (st' := [.int (-1), .long 0, .long ((n).toInt64)]) rfl rfl ?_
    refine wp_s (i := .i2l) (n := 1) (pc' := 10) (st' := [.long (-1), .long 0, .long ((n).toInt64)]) rfl rfl ?_
    refine wp_c (i := .invokestatic 81) (n := 3) (Dq := 10) (r' := mm_r120) (as := [.long ((n).toInt64), .long 0, .long (-1)]) (rest := []) (ls' := [some (.long ((n).toInt64)), none, some (.long 0), none, some (.long (-1)), none]) rfl rfl rfl ?_
    refine wp_s (i := .lload_n 0) (n := 1) (pc' := 1) (st' := [.long ((n).toInt64)]) rfl rfl ?_
    refine wp_s (i := .lload_n 2) (n := 1) (pc' := 2) (st' := [.long 0, .long ((n).toInt64)]) rfl rfl ?_
    refine wp_s (i := .lcmp) (n := 1) (pc' := 3) (st' := [.int (lg_cmp ((n).toInt64) 0)]) rfl rfl ?_
    refine wp_if (t := 17) (st := []) rfl rfl (fun hc2 => ?_) (fun hc2 => ?_)
    · skip
      have q2 : (n).toInt < 0 := by have := lc_t_lt hc2; simpa using this
      show mm_Wp _ _ _ 17 _ _ _ _
      refine wp_s (i := .iconst 0) (n := 1) (pc' := 18) (st' := [.int 0]) rfl rfl ?_
      refine wp_r (i := .ireturn) (n := 1) (v := some (.int 0)) rfl rfl ?_
      show mm_Wp X 11 mm_r140 13 [some (.ref 114), some (.int n)] [.int 0] _ _
      refine wp_r (i := .ireturn) (n := 1) (v := some (.int 0)) rfl rfl ?_
      show mm_Wp X 12 mm_r177 5 [some (.ref 114), some (.int n), some (.int w), none, none, none, none, none, none, none, none] [.int 0] _ _
      refine wp_s (i := .ifCond .eq 15) (n := 3) (pc' := 20) (st' := []) rfl rfl ?_
      refine wp_s (i := .iconst (-1)) (n := 1) (pc' := 21) (st' := [.int (-1)]) rfl rfl ?_
      refine wp_r (i := .ireturn) (n := 1) (v := some (.int (-1))) rfl rfl ?_
      exact ⟨rfl, pk_ok0⟩
    · skip
      have q2 : (n).toInt ≥ 0 := by have := lc_f_lt hc2; simpa using this
      exfalso; omega
  · skip
    have q1 : (n).toInt ≥ 0 := by have := mc_f_lt hc1; simpa using this
    show mm_Wp _ _ _ 4 _ _ _ _
    refine wp_s (i := .iload_n 1) (n := 1) (pc' := 5) (st' := [.int n]) rfl rfl ?_
    refine wp_s (i := .aload_n 0) (n := 1) (pc' := 6) (st' := [.ref 0, .int n]) rfl rfl ?_
    refine wp_gf (idx := 24) (a := 0) (v := .ref 25) (pc' := 9) rfl rfl hb_0 rfl rfl ?_
    refine wp_gf (idx := 117) (a := 25) (v := .int 0) (pc' := 12) rfl rfl hb_25 rfl rfl ?_
    refine wp_ic (t := 19) (st := []) rfl rfl (fun hc3 => ?_) (fun hc3 => ?_)
    · skip
      have q3 : (n).toInt ≥ 0 := by have := mc_t_ge hc3; simpa using this
      show mm_Wp _ _ _ 19 _ _ _ _
      refine wp_s (i := .iconst 0) (n := 1) (pc' := 20) (st' := [.int 0]) rfl rfl ?_
      refine wp_r (i := .ireturn) (n := 1) (v := some (.int 0)) rfl rfl ?_
      show mm_Wp X 12 mm_r89 5 [some (.ref 0), some (.int n), some (.int w)] [.int 0] _ _
      refine wp_s (i := .ifCond .eq 12) (n := 3) (pc' := 17) (st' := []) rfl rfl ?_
      refine wp_s (i := .iconst (-1)) (n := 1) (pc' := 18) (st' := [.int (-1)]) rfl rfl ?_
      refine wp_r (i := .ireturn) (n := 1) (v := some (.int (-1))) rfl rfl ?_
      refine ⟨(-1), rfl, ⟨_, hb_114⟩, ?_⟩
      show mm_Wp X 12 mm_r177 0 [some (.ref 114), some (.int n), some (.int w), none, none, none, none, none, none, none, none] [] _ _
      refine wp_s (i := .aload_n 0) (n := 1) (pc' := 1) (st' := [.ref 114]) rfl rfl ?_
      refine wp_s (i := .iload_n 1) (n := 1) (pc' := 2) (st' := [.int n, .ref 114]) rfl rfl ?_
      refine wp_c (i := .invokevirtual 243) (n := 3) (Dq := 11) (r' := mm_r140) (as := [.ref 114, .int n]) (rest := []) (ls' := [some (.ref 114), some (.int n)]) rfl rfl rfl ?_
      refine wp_s (i := .iload_n 1) (n := 1) (pc' := 1) (st' := [.int n]) rfl rfl ?_
      refine wp_s (i := .i2l) (n := 1) (pc' := 2) (st' := [.long ((n).toInt64)]) rfl rfl ?_
      refine wp_s (i := .lconst 0) (n := 1) (pc' := 3) (st' := [.long 0, .long ((n).toInt64)]) rfl rfl ?_
      refine wp_s (i := .aload_n 0) (n := 1) (pc' := 4) (st' := [.ref 114, .long 0, .long ((n).toInt64)]) rfl rfl ?_
      refine wp_gf (idx := 173) (a := 114) (v := .int 0) (pc' := 7) rfl rfl hb_114 rfl rfl ?_
      refine wp_s (i := .iconst 1) (n := 1) (pc' := 8) (st' := [.int 1, .int 0, .long 0, .long ((n).toInt64)]) rfl rfl ?_
      refine wp_s (i := .isub) (n := 1) (pc' := 9) (st' := [.int (-1), .long 0, .long ((n).toInt64)]) rfl rfl ?_
      refine wp_s (i := .i2l) (n := 1) (pc' := 10) (st' := [.long (-1), .long 0, .long ((n).toInt64)]) rfl rfl ?_
      refine wp_c (i := .invokestatic 81) (n := 3) (Dq := 10) (r' := mm_r120) (as := [.long ((n).toInt64), .long 0, .long (-1)]) (rest := []) (ls' := [some (.long ((n).toInt64)), none, some (.long 0), none, some (.long (-1)), none]) rfl rfl rfl ?_
      refine wp_s (i := .lload_n 0) (n := 1) (pc' := 1) (st' := [.long ((n).toInt64)]) rfl rfl ?_
      refine wp_s (i := .lload_n 2) (n := 1) (pc' := 2) (st' := [.long 0, .long ((n).toInt64)]) rfl rfl ?_
      refine wp_s (i := .lcmp) (n := 1) (pc' := 3) (st' := [.int (lg_cmp ((n).toInt64) 0)]) rfl rfl ?_
      refine wp_if (t := 17) (st := []) rfl rfl (fun hc4 => ?_) (fun hc4 => ?_)
      · skip
        have q4 : (n).toInt < 0 := by have := lc_t_lt hc4; simpa using this
        exfalso; omega
      · skip
        have q4 : (n).toInt ≥ 0 := by have := lc_f_lt hc4; simpa using this
        show mm_Wp _ _ _ 6 _ _ _ _
        refine wp_s (i := .lload_n 0) (n := 1) (pc' := 7) (st' := [.long ((n).toInt64)]) rfl rfl ?_
        refine wp_s (i := .lload 4) (n := 2) (pc' := 9) (st' := [.long (-1), .long ((n).toInt64)]) rfl rfl ?_
        refine wp_s (i := .lcmp) (n := 1) (pc' := 10) (st' := [.int (lg_cmp ((n).toInt64) (-1))]) rfl rfl ?_
        refine wp_if (t := 17) (st := []) rfl rfl (fun hc5 => ?_) (fun hc5 => ?_)
        · skip
          have q5 : (n).toInt > -1 := by have := lc_t_gt hc5; simpa using this
          show mm_Wp _ _ _ 17 _ _ _ _
          refine wp_s (i := .iconst 0) (n := 1) (pc' := 18) (st' := [.int 0]) rfl rfl ?_
          refine wp_r (i := .ireturn) (n := 1) (v := some (.int 0)) rfl rfl ?_
          show mm_Wp X 11 mm_r140 13 [some (.ref 114), some (.int n)] [.int 0] _ _
          refine wp_r (i := .ireturn) (n := 1) (v := some (.int 0)) rfl rfl ?_
          show mm_Wp X 12 mm_r177 5 [some (.ref 114), some (.int n), some (.int w), none, none, none, none, none, none, none, none] [.int 0] _ _
          refine wp_s (i := .ifCond .eq 15) (n := 3) (pc' := 20) (st' := []) rfl rfl ?_
          refine wp_s (i := .iconst (-1)) (n := 1) (pc' := 21) (st' := [.int (-1)]) rfl rfl ?_
          refine wp_r (i := .ireturn) (n := 1) (v := some (.int (-1))) rfl rfl ?_
          exact ⟨rfl, pk_ok0⟩
        · skip
          have q5 : (n).toInt ≤ -1 := by have := lc_f_gt hc5; simpa using this
          exfalso; omega
    · skip
      have q3 : (n).toInt < 0 := by have := mc_f_ge hc3; simpa using this
      exfalso; omega
set_option maxRecDepth 20000 in
set_option maxHeartbeats 4000000 in
theorem pk_25 (X : Option (List Int32)) (n : Int32) : mm_Wp X 12 mm_r90 0 [some (.ref 0), some (.int n)] [] hp_0 (fun v1 h1 => ∃ x : Int32, v1 = some (.int x) ∧ (∃ fs, h1[114]? = some (.inr (10, fs))) ∧ mm_Wp X 12 mm_r178 0 [some (.ref 114), some (.int n)] [] h1 (fun v2 h2 => v2 = some (.int x) ∧ pk_ok h2)) := by
  refine wp_s (i := .aload_n 0) (n := 1) (pc' := 1) (st' := [.ref 0]) rfl rfl ?_
  refine wp_s (i := .iload_n 1) (n := 1) (pc' := 2) (st' := [.int n, .ref 0]) rfl rfl ?_
  refine wp_c (i := .invokevirtual 220) (n := 3) (Dq := 11) (r' := mm_r105) (as := [.ref 0, .int n]) (rest := []) (ls' := [some (.ref 0), some (.int n)]) rfl rfl rfl ?_
  refine wp_s (i := .iload_n 1) (n := 1) (pc' := 1) (st' := [.int n]) rfl rfl ?_
  refine wp_if (t := 19) (st := []) rfl rfl (fun hc1 => ?_) (fun hc1 => ?_)
  · skip
    have q1 : (n).toInt < 0 := by have := mc_t_lt hc1; simpa using this
    show mm_Wp _ _ _ 19 _ _ _ _
    refine wp_s (i := .iconst 0) (n := 1) (pc' := 20) (st' := [.int 0]) rfl rfl ?_
    refine wp_r (i := .ireturn) (n := 1) (v := some (.int 0)) rfl rfl ?_
    show mm_Wp X 12 mm_r90 5 [some (.ref 0), some (.int n)] [.int 0] _ _
    refine wp_s (i := .ifCond .ne 5) (n := 3) (pc' := 8) (st' := []) rfl rfl ?_
    refine wp_s (i := .iconst (-1)) (n := 1) (pc' := 9) (st' := [.int (-1)]) rfl rfl ?_
    refine wp_r (i := .ireturn) (n := 1) (v := some (.int (-1))) rfl rfl ?_
    refine ⟨(-1), rfl, ⟨_, hb_114⟩, ?_⟩
    show mm_Wp X 12 mm_r178 0 [some (.ref 114), some (.int n)] [] _ _
    refine wp_s (i := .aload_n 0) (n := 1) (pc' := 1) (st' := [.ref 114]) rfl rfl ?_
    refine wp_s (i := .iload_n 1) (n := 1) (pc' := 2) (st' := [.int n, .ref 114]) rfl rfl ?_
    refine wp_c (i := .invokevirtual 243) (n := 3) (Dq := 11) (r' := mm_r140) (as := [.ref 114, .int n]) (rest := []) (ls' := [some (.ref 114), some (.int n)]) rfl rfl rfl ?_
    refine wp_s (i := .iload_n 1) (n := 1) (pc' := 1) (st' := [.int n]) rfl rfl ?_
    refine wp_s (i := .i2l) (n := 1) (pc' := 2) (st' := [.long ((n).toInt64)]) rfl rfl ?_
    refine wp_s (i := .lconst 0) (n := 1) (pc' := 3) (st' := [.long 0, .long ((n).toInt64)]) rfl rfl ?_
    refine wp_s (i := .aload_n 0) (n := 1) (pc' := 4) (st' := [.ref 114, .long 0, .long ((n).toInt64)]) rfl rfl ?_
    refine wp_gf (idx := 173) (a := 114) (v := .int 0) (pc' := 7) rfl rfl hb_114 rfl rfl ?_
    refine wp_s (i := .iconst 1) (n := 1) (pc' := 8) (st' := [.int 1, .int 0, .long 0, .long ((n).toInt64)]) rfl rfl ?_
    refine wp_s (i := .isub) (n := 1) (pc' := 9) (st' := [.int (-1), .long 0, .long ((n).toInt64)]) rfl rfl ?_
    refine wp_s (i := .i2l) (n := 1) (pc' := 10) (st' := [.long (-1), .long 0, .long ((n).toInt64)]) rfl rfl ?_
    refine wp_c (i := .invokestatic 81) (n := 3) (Dq := 10) (r' := mm_r120) (as := [.long ((n).toInt64), .long 0, .long (-1)]) (rest := []) (ls' := [some (.long ((n).toInt64)), none, some (.long 0), none, some (.long (-1)), none]) rfl rfl rfl ?_
    refine wp_s (i := .lload_n 0) (n := 1) (pc' := 1) (st' := [.long ((n).toInt64)]) rfl rfl ?_
    refine wp_s (i := .lload_n 2) (n := 1) (pc' := 2) (st' := [.long 0, .long ((n).toInt64)]) rfl rfl ?_
    refine wp_s (i := .lcmp) (n := 1) (pc' := 3) (st' := [.int (lg_cmp ((n).toInt64) 0)]) rfl rfl ?_
    refine wp_if (t := 17) (st := []) rfl rfl (fun hc2 => ?_) (fun hc2 => ?_)
    · skip
      have q2 : (n).toInt < 0 := by have := lc_t_lt hc2; simpa using this
      show mm_Wp _ _ _ 17 _ _ _ _
      refine wp_s (i := .iconst 0) (n := 1) (pc' := 18) (st' := [.int 0]) rfl rfl ?_
      refine wp_r (i := .ireturn) (n := 1) (v := some (.int 0)) rfl rfl ?_
      show mm_Wp X 11 mm_r140 13 [some (.ref 114), some (.int n)] [.int 0] _ _
      refine wp_r (i := .ireturn) (n := 1) (v := some (.int 0)) rfl rfl ?_
      show mm_Wp X 12 mm_r178 5 [some (.ref 114), some (.int n)] [.int 0] _ _
      refine wp_s (i := .ifCond .eq 11) (n := 3) (pc' := 16) (st' := []) rfl rfl ?_
      refine wp_s (i := .iconst (-1)) (n := 1) (pc' := 17) (st' := [.int (-1)]) rfl rfl ?_
      refine wp_r (i := .ireturn) (n := 1) (v := some (.int (-1))) rfl rfl ?_
      exact ⟨rfl, pk_ok0⟩
    · skip
      have q2 : (n).toInt ≥ 0 := by have := lc_f_lt hc2; simpa using this
      exfalso; omega
  · skip
    have q1 : (n).toInt ≥ 0 := by have := mc_f_lt hc1; simpa using this
    show mm_Wp _ _ _ 4 _ _ _ _
    refine wp_s (i := .iload_n 1) (n := 1) (pc' := 5) (st' := [.int n]) rfl rfl ?_
    refine wp_s (i := .aload_n 0) (n := 1) (pc' := 6) (st' := [.ref 0, .int n]) rfl rfl ?_
    refine wp_gf (idx := 24) (a := 0) (v := .ref 25) (pc' := 9) rfl rfl hb_0 rfl rfl ?_
    refine wp_gf (idx := 117) (a := 25) (v := .int 0) (pc' := 12) rfl rfl hb_25 rfl rfl ?_
    refine wp_ic (t := 19) (st := []) rfl rfl (fun hc3 => ?_) (fun hc3 => ?_)
    · skip
      have q3 : (n).toInt ≥ 0 := by have := mc_t_ge hc3; simpa using this
      show mm_Wp _ _ _ 19 _ _ _ _
      refine wp_s (i := .iconst 0) (n := 1) (pc' := 20) (st' := [.int 0]) rfl rfl ?_
      refine wp_r (i := .ireturn) (n := 1) (v := some (.int 0)) rfl rfl ?_
      show mm_Wp X 12 mm_r90 5 [some (.ref 0), some (.int n)] [.int 0] _ _
      refine wp_s (i := .ifCond .ne 5) (n := 3) (pc' := 8) (st' := []) rfl rfl ?_
      refine wp_s (i := .iconst (-1)) (n := 1) (pc' := 9) (st' := [.int (-1)]) rfl rfl ?_
      refine wp_r (i := .ireturn) (n := 1) (v := some (.int (-1))) rfl rfl ?_
      refine ⟨(-1), rfl, ⟨_, hb_114⟩, ?_⟩
      show mm_Wp X 12 mm_r178 0 [some (.ref 114), some (.int n)] [] _ _
      refine wp_s (i := .aload_n 0) (n := 1) (pc' := 1) (st' := [.ref 114]) rfl rfl ?_
      refine wp_s (i := .iload_n 1) (n := 1) (pc' := 2) (st' := [.int n, .ref 114]) rfl rfl ?_
      refine wp_c (i := .invokevirtual 243) (n := 3) (Dq := 11) (r' := mm_r140) (as := [.ref 114, .int n]) (rest := []) (ls' := [some (.ref 114), some (.int n)]) rfl rfl rfl ?_
      refine wp_s (i := .iload_n 1) (n := 1) (pc' := 1) (st' := [.int n]) rfl rfl ?_
      refine wp_s (i := .i2l) (n := 1) (pc' := 2) (st' := [.long ((n).toInt64)]) rfl rfl ?_
      refine wp_s (i := .lconst 0) (n := 1) (pc' := 3) (st' := [.long 0, .long ((n).toInt64)]) rfl rfl ?_
      refine wp_s (i := .aload_n 0) (n := 1) (pc' := 4) (st' := [.ref 114, .long 0, .long ((n).toInt64)]) rfl rfl ?_
      refine wp_gf (idx := 173) (a := 114) (v := .int 0) (pc' := 7) rfl rfl hb_114 rfl rfl ?_
      refine wp_s (i := .iconst 1) (n := 1) (pc' := 8) (st' := [.int 1, .int 0, .long 0, .long ((n).toInt64)]) rfl rfl ?_
      refine wp_s (i := .isub) (n := 1) (pc' := 9) (st' := [.int (-1), .long 0, .long ((n).toInt64)]) rfl rfl ?_
      refine wp_s (i := .i2l) (n := 1) (pc' := 10) (st' := [.long (-1), .long 0, .long ((n).toInt64)]) rfl rfl ?_
      refine wp_c (i := .invokestatic 81) (n := 3) (Dq := 10) (r' := mm_r120) (as := [.long ((n).toInt64), .long 0, .long (-1)]) (rest := []) (ls' := [some (.long ((n).toInt64)), none, some (.long 0), none, some (.long (-1)), none]) rfl rfl rfl ?_
      refine wp_s (i := .lload_n 0) (n := 1) (pc' := 1) (st' := [.long ((n).toInt64)]) rfl rfl ?_
      refine wp_s (i := .lload_n 2) (n := 1) (pc' := 2) (st' := [.long 0, .long ((n).toInt64)]) rfl rfl ?_
      refine wp_s (i := .lcmp) (n := 1) (pc' := 3) (st' := [.int (lg_cmp ((n).toInt64) 0)]) rfl rfl ?_
      refine wp_if (t := 17) (st := []) rfl rfl (fun hc4 => ?_) (fun hc4 => ?_)
      · skip
        have q4 : (n).toInt < 0 := by have := lc_t_lt hc4; simpa using this
        exfalso; omega
      · skip
        have q4 : (n).toInt ≥ 0 := by have := lc_f_lt hc4; simpa using this
        show mm_Wp _ _ _ 6 _ _ _ _
        refine wp_s (i := .lload_n 0) (n := 1) (pc' := 7) (st' := [.long ((n).toInt64)]) rfl rfl ?_
        refine wp_s (i := .lload 4) (n := 2) (pc' := 9) (st' := [.long (-1), .long ((n).toInt64)]) rfl rfl ?_
        refine wp_s (i := .lcmp) (n := 1) (pc' := 10) (st' := [.int (lg_cmp ((n).toInt64) (-1))]) rfl rfl ?_
        refine wp_if (t := 17) (st := []) rfl rfl (fun hc5 => ?_) (fun hc5 => ?_)
        · skip
          have q5 : (n).toInt > -1 := by have := lc_t_gt hc5; simpa using this
          show mm_Wp _ _ _ 17 _ _ _ _
          refine wp_s (i := .iconst 0) (n := 1) (pc' := 18) (st' := [.int 0]) rfl rfl ?_
          refine wp_r (i := .ireturn) (n := 1) (v := some (.int 0)) rfl rfl ?_
          show mm_Wp X 11 mm_r140 13 [some (.ref 114), some (.int n)] [.int 0] _ _
          refine wp_r (i := .ireturn) (n := 1) (v := some (.int 0)) rfl rfl ?_
          show mm_Wp X 12 mm_r178 5 [some (.ref 114), some (.int n)] [.int 0] _ _
          refine wp_s (i := .ifCond .eq 11) (n := 3) (pc' := 16) (st' := []) rfl rfl ?_
          refine wp_s (i := .iconst (-1)) (n := 1) (pc' := 17) (st' := [.int (-1)]) rfl rfl ?_
          refine wp_r (i := .ireturn) (n := 1) (v := some (.int (-1))) rfl rfl ?_
          exact ⟨rfl, pk_ok0⟩
        · skip
          have q5 : (n).toInt ≤ -1 := by have := lc_f_gt hc5; simpa using this
          exfalso; omega
    · skip
      have q3 : (n).toInt < 0 := by have := mc_f_ge hc3; simpa using this
      exfalso; omega
set_option maxRecDepth 20000 in
set_option maxHeartbeats 4000000 in
theorem pk_26_0 (X : Option (List Int32))  : mm_Wp X 12 mm_r91 0 [some (.ref 0), some (.int 0), none, none, none, none, none] [] hp_0 (fun v1 h1 => ∃ x : Int32, v1 = some (.int x) ∧ (∃ fs, h1[114]? = some (.inr (10, fs))) ∧ mm_Wp X 12 mm_r179 0 [some (.ref 114), some (.int 0), none, none, none, none, none, none] [] h1 (fun v2 h2 => v2 = some (.int x) ∧ pk_ok h2)) := by
  refine wp_x 19 (v := some (.int (-2))) (h' := hp_0) (mm_dec (by decide +kernel)) ?_
  refine ⟨(-2), rfl, ⟨_, hb_114⟩, ?_⟩
  show mm_Wp X 12 mm_r179 0 [some (.ref 114), some (.int 0), none, none, none, none, none, none] [] _ _
  refine wp_x 41 (v := some (.int (-2))) (h' := hp_0) (mm_dec (by decide +kernel)) ?_
  exact ⟨rfl, pk_ok0⟩
set_option maxRecDepth 20000 in
set_option maxHeartbeats 4000000 in
theorem pk_26_1 (X : Option (List Int32))  : mm_Wp X 12 mm_r91 0 [some (.ref 0), some (.int 1), none, none, none, none, none] [] hp_0 (fun v1 h1 => ∃ x : Int32, v1 = some (.int x) ∧ (∃ fs, h1[114]? = some (.inr (10, fs))) ∧ mm_Wp X 12 mm_r179 0 [some (.ref 114), some (.int 1), none, none, none, none, none, none] [] h1 (fun v2 h2 => v2 = some (.int x) ∧ pk_ok h2)) := by
  refine wp_x 19 (v := some (.int (-2))) (h' := hp_0) (mm_dec (by decide +kernel)) ?_
  refine ⟨(-2), rfl, ⟨_, hb_114⟩, ?_⟩
  show mm_Wp X 12 mm_r179 0 [some (.ref 114), some (.int 1), none, none, none, none, none, none] [] _ _
  refine wp_x 41 (v := some (.int (-2))) (h' := hp_0) (mm_dec (by decide +kernel)) ?_
  exact ⟨rfl, pk_ok0⟩
set_option maxRecDepth 20000 in
set_option maxHeartbeats 4000000 in
theorem pk_26_o (X : Option (List Int32)) (n : Int32) (he0 : ¬ n = 0) (he1 : ¬ n = 1) : mm_Wp X 12 mm_r91 0 [some (.ref 0), some (.int n), none, none, none, none, none] [] hp_0 (fun v1 h1 => ∃ x : Int32, v1 = some (.int x) ∧ (∃ fs, h1[114]? = some (.inr (10, fs))) ∧ mm_Wp X 12 mm_r179 0 [some (.ref 114), some (.int n), none, none, none, none, none, none] [] h1 (fun v2 h2 => v2 = some (.int x) ∧ pk_ok h2)) := by
  have hf0 : n.toInt ≠ 0 := fun q => he0 (Int32.toInt_inj.mp (by rw [q]; rfl))
  have hf1 : n.toInt ≠ 1 := fun q => he1 (Int32.toInt_inj.mp (by rw [q]; rfl))
  refine wp_s (i := .iload_n 1) (n := 1) (pc' := 1) (st' := [.int n]) rfl rfl ?_
  refine wp_if (t := 9) (st := []) rfl rfl (fun hc1 => ?_) (fun hc1 => ?_)
  · skip
    have q1 : (n).toInt < 0 := by have := mc_t_lt hc1; simpa using this
    show mm_Wp _ _ _ 9 _ _ _ _
    refine wp_s (i := .iconst (-1)) (n := 1) (pc' := 10) (st' := [.int (-1)]) rfl rfl ?_
    refine wp_r (i := .ireturn) (n := 1) (v := some (.int (-1))) rfl rfl ?_
    refine ⟨(-1), rfl, ⟨_, hb_114⟩, ?_⟩
    show mm_Wp X 12 mm_r179 0 [some (.ref 114), some (.int n), none, none, none, none, none, none] [] _ _
    refine wp_s (i := .iload_n 1) (n := 1) (pc' := 1) (st' := [.int n]) rfl rfl ?_
    refine wp_s (i := .i2l) (n := 1) (pc' := 2) (st' := [.long ((n).toInt64)]) rfl rfl ?_
    refine wp_s (i := .lconst 0) (n := 1) (pc' := 3) (st' := [.long 0, .long ((n).toInt64)]) rfl rfl ?_
    refine wp_s (i := .lconst 1) (n := 1) (pc' := 4) (st' := [.long 1, .long 0, .long ((n).toInt64)]) rfl rfl ?_
    refine wp_c (i := .invokestatic 81) (n := 3) (Dq := 11) (r' := mm_r120) (as := [.long ((n).toInt64), .long 0, .long 1]) (rest := []) (ls' := [some (.long ((n).toInt64)), none, some (.long 0), none, some (.long 1), none]) rfl rfl rfl ?_
    refine wp_s (i := .lload_n 0) (n := 1) (pc' := 1) (st' := [.long ((n).toInt64)]) rfl rfl ?_
    refine wp_s (i := .lload_n 2) (n := 1) (pc' := 2) (st' := [.long 0, .long ((n).toInt64)]) rfl rfl ?_
    refine wp_s (i := .lcmp) (n := 1) (pc' := 3) (st' := [.int (lg_cmp ((n).toInt64) 0)]) rfl rfl ?_
    refine wp_if (t := 17) (st := []) rfl rfl (fun hc2 => ?_) (fun hc2 => ?_)
    · skip
      have q2 : (n).toInt < 0 := by have := lc_t_lt hc2; simpa using this
      show mm_Wp _ _ _ 17 _ _ _ _
      refine wp_s (i := .iconst 0) (n := 1) (pc' := 18) (st' := [.int 0]) rfl rfl ?_
      refine wp_r (i := .ireturn) (n := 1) (v := some (.int 0)) rfl rfl ?_
      show mm_Wp X 12 mm_r179 7 [some (.ref 114), some (.int n), none, none, none, none, none, none] [.int 0] _ _
      refine wp_s (i := .ifCond .ne 5) (n := 3) (pc' := 10) (st' := []) rfl rfl ?_
      refine wp_s (i := .iconst (-1)) (n := 1) (pc' := 11) (st' := [.int (-1)]) rfl rfl ?_
      refine wp_r (i := .ireturn) (n := 1) (v := some (.int (-1))) rfl rfl ?_
      exact ⟨rfl, pk_ok0⟩
    · skip
      have q2 : (n).toInt ≥ 0 := by have := lc_f_lt hc2; simpa using this
      exfalso; omega
  · skip
    have q1 : (n).toInt ≥ 0 := by have := mc_f_lt hc1; simpa using this
    show mm_Wp _ _ _ 4 _ _ _ _
    refine wp_s (i := .iload_n 1) (n := 1) (pc' := 5) (st' := [.int n]) rfl rfl ?_
    refine wp_s (i := .iconst 1) (n := 1) (pc' := 6) (st' := [.int 1, .int n]) rfl rfl ?_
    refine wp_ic (t := 11) (st := []) rfl rfl (fun hc3 => ?_) (fun hc3 => ?_)
    · skip
      have q3 : (n).toInt ≤ 1 := by have := mc_t_le hc3; simpa using this
      exfalso; omega
    · skip
      have q3 : (n).toInt > 1 := by have := mc_f_le hc3; simpa using this
      show mm_Wp _ _ _ 9 _ _ _ _
      refine wp_s (i := .iconst (-1)) (n := 1) (pc' := 10) (st' := [.int (-1)]) rfl rfl ?_
      refine wp_r (i := .ireturn) (n := 1) (v := some (.int (-1))) rfl rfl ?_
      refine ⟨(-1), rfl, ⟨_, hb_114⟩, ?_⟩
      show mm_Wp X 12 mm_r179 0 [some (.ref 114), some (.int n), none, none, none, none, none, none] [] _ _
      refine wp_s (i := .iload_n 1) (n := 1) (pc' := 1) (st' := [.int n]) rfl rfl ?_
      refine wp_s (i := .i2l) (n := 1) (pc' := 2) (st' := [.long ((n).toInt64)]) rfl rfl ?_
      refine wp_s (i := .lconst 0) (n := 1) (pc' := 3) (st' := [.long 0, .long ((n).toInt64)]) rfl rfl ?_
      refine wp_s (i := .lconst 1) (n := 1) (pc' := 4) (st' := [.long 1, .long 0, .long ((n).toInt64)]) rfl rfl ?_
      refine wp_c (i := .invokestatic 81) (n := 3) (Dq := 11) (r' := mm_r120) (as := [.long ((n).toInt64), .long 0, .long 1]) (rest := []) (ls' := [some (.long ((n).toInt64)), none, some (.long 0), none, some (.long 1), none]) rfl rfl rfl ?_
      refine wp_s (i := .lload_n 0) (n := 1) (pc' := 1) (st' := [.long ((n).toInt64)]) rfl rfl ?_
      refine wp_s (i := .lload_n 2) (n := 1) (pc' := 2) (st' := [.long 0, .long ((n).toInt64)]) rfl rfl ?_
      refine wp_s (i := .lcmp) (n := 1) (pc' := 3) (st' := [.int (lg_cmp ((n).toInt64) 0)]) rfl rfl ?_
      refine wp_if (t := 17) (st := []) rfl rfl (fun hc4 => ?_) (fun hc4 => ?_)
      · skip
        have q4 : (n).toInt < 0 := by have := lc_t_lt hc4; simpa using this
        exfalso; omega
      · skip
        have q4 : (n).toInt ≥ 0 := by have := lc_f_lt hc4; simpa using this
        show mm_Wp _ _ _ 6 _ _ _ _
        refine wp_s (i := .lload_n 0) (n := 1) (pc' := 7) (st' := [.long ((n).toInt64)]) rfl rfl ?_
        refine wp_s (i := .lload 4) (n := 2) (pc' := 9) (st' := [.long 1, .long ((n).toInt64)]) rfl rfl ?_
        refine wp_s (i := .lcmp) (n := 1) (pc' := 10) (st' := [.int (lg_cmp ((n).toInt64) 1)]) rfl rfl ?_
        refine wp_if (t := 17) (st := []) rfl rfl (fun hc5 => ?_) (fun hc5 => ?_)
        · skip
          have q5 : (n).toInt > 1 := by have := lc_t_gt hc5; simpa using this
          show mm_Wp _ _ _ 17 _ _ _ _
          refine wp_s (i := .iconst 0) (n := 1) (pc' := 18) (st' := [.int 0]) rfl rfl ?_
          refine wp_r (i := .ireturn) (n := 1) (v := some (.int 0)) rfl rfl ?_
          show mm_Wp X 12 mm_r179 7 [some (.ref 114), some (.int n), none, none, none, none, none, none] [.int 0] _ _
          refine wp_s (i := .ifCond .ne 5) (n := 3) (pc' := 10) (st' := []) rfl rfl ?_
          refine wp_s (i := .iconst (-1)) (n := 1) (pc' := 11) (st' := [.int (-1)]) rfl rfl ?_
          refine wp_r (i := .ireturn) (n := 1) (v := some (.int (-1))) rfl rfl ?_
          exact ⟨rfl, pk_ok0⟩
        · skip
          have q5 : (n).toInt ≤ 1 := by have := lc_f_gt hc5; simpa using this
          exfalso; omega
theorem pk_26 (X : Option (List Int32)) (n : Int32) : mm_Wp X 12 mm_r91 0 [some (.ref 0), some (.int n), none, none, none, none, none] [] hp_0 (fun v1 h1 => ∃ x : Int32, v1 = some (.int x) ∧ (∃ fs, h1[114]? = some (.inr (10, fs))) ∧ mm_Wp X 12 mm_r179 0 [some (.ref 114), some (.int n), none, none, none, none, none, none] [] h1 (fun v2 h2 => v2 = some (.int x) ∧ pk_ok h2)) := by
  by_cases he0 : n = 0
  · subst he0; exact pk_26_0 X 
  by_cases he1 : n = 1
  · subst he1; exact pk_26_1 X 
  exact pk_26_o X n he0 he1
set_option maxRecDepth 20000 in
set_option maxHeartbeats 4000000 in
theorem pk_27 (X : Option (List Int32)) (n : Int32) : mm_Wp X 12 mm_r92 0 [some (.ref 0), some (.int n), none, none] [] hp_0 (fun v1 h1 => ∃ x : Int32, v1 = some (.int x) ∧ (∃ fs, h1[114]? = some (.inr (10, fs))) ∧ mm_Wp X 12 mm_r180 0 [some (.ref 114), some (.int n), none, none] [] h1 (fun v2 h2 => v2 = some (.int x) ∧ pk_ok h2)) := by
  refine wp_s (i := .aload_n 0) (n := 1) (pc' := 1) (st' := [.ref 0]) rfl rfl ?_
  refine wp_s (i := .iload_n 1) (n := 1) (pc' := 2) (st' := [.int n, .ref 0]) rfl rfl ?_
  refine wp_c (i := .invokevirtual 220) (n := 3) (Dq := 11) (r' := mm_r105) (as := [.ref 0, .int n]) (rest := []) (ls' := [some (.ref 0), some (.int n)]) rfl rfl rfl ?_
  refine wp_s (i := .iload_n 1) (n := 1) (pc' := 1) (st' := [.int n]) rfl rfl ?_
  refine wp_if (t := 19) (st := []) rfl rfl (fun hc1 => ?_) (fun hc1 => ?_)
  · skip
    have q1 : (n).toInt < 0 := by have := mc_t_lt hc1; simpa using this
    show mm_Wp _ _ _ 19 _ _ _ _
    refine wp_s (i := .iconst 0) (n := 1) (pc' := 20) (st' := [.int 0]) rfl rfl ?_
    refine wp_r (i := .ireturn) (n := 1) (v := some (.int 0)) rfl rfl ?_
    show mm_Wp X 12 mm_r92 5 [some (.ref 0), some (.int n), none, none] [.int 0] _ _
    refine wp_s (i := .ifCond .ne 5) (n := 3) (pc' := 8) (st' := []) rfl rfl ?_
    refine wp_s (i := .iconst (-1)) (n := 1) (pc' := 9) (st' := [.int (-1)]) rfl rfl ?_
    refine wp_r (i := .ireturn) (n := 1) (v := some (.int (-1))) rfl rfl ?_
    refine ⟨(-1), rfl, ⟨_, hb_114⟩, ?_⟩
    show mm_Wp X 12 mm_r180 0 [some (.ref 114), some (.int n), none, none] [] _ _
    refine wp_s (i := .aload_n 0) (n := 1) (pc' := 1) (st' := [.ref 114]) rfl rfl ?_
    refine wp_s (i := .iload_n 1) (n := 1) (pc' := 2) (st' := [.int n, .ref 114]) rfl rfl ?_
    refine wp_c (i := .invokevirtual 243) (n := 3) (Dq := 11) (r' := mm_r140) (as := [.ref 114, .int n]) (rest := []) (ls' := [some (.ref 114), some (.int n)]) rfl rfl rfl ?_
    refine wp_s (i := .iload_n 1) (n := 1) (pc' := 1) (st' := [.int n]) rfl rfl ?_
    refine wp_s (i := .i2l) (n := 1) (pc' := 2) (st' := [.long ((n).toInt64)]) rfl rfl ?_
    refine wp_s (i := .lconst 0) (n := 1) (pc' := 3) (st' := [.long 0, .long ((n).toInt64)]) rfl rfl ?_
    refine wp_s (i := .aload_n 0) (n := 1) (pc' := 4) (st' := [.ref 114, .long 0, .long ((n).toInt64)]) rfl rfl ?_
    refine wp_gf (idx := 173) (a := 114) (v := .int 0) (pc' := 7) rfl rfl hb_114 rfl rfl ?_
    refine wp_s (i := .iconst 1) (n := 1) (pc' := 8) (st' := [.int 1, .int 0, .long 0, .long ((n).toInt64)]) rfl rfl ?_
    refine wp_s (i := .isub) (n := 1) (pc' := 9) (st' := [.int (-1), .long 0, .long ((n).toInt64)]) rfl rfl ?_
    refine wp_s (i := .i2l) (n := 1) (pc' := 10) (st' := [.long (-1), .long 0, .long ((n).toInt64)]) rfl rfl ?_
    refine wp_c (i := .invokestatic 81) (n := 3) (Dq := 10) (r' := mm_r120) (as := [.long ((n).toInt64), .long 0, .long (-1)]) (rest := []) (ls' := [some (.long ((n).toInt64)), none, some (.long 0), none, some (.long (-1)), none]) rfl rfl rfl ?_
    refine wp_s (i := .lload_n 0) (n := 1) (pc' := 1) (st' := [.long ((n).toInt64)]) rfl rfl ?_
    refine wp_s (i := .lload_n 2) (n := 1) (pc' := 2) (st' := [.long 0, .long ((n).toInt64)]) rfl rfl ?_
    refine wp_s (i := .lcmp) (n := 1) (pc' := 3) (st' := [.int (lg_cmp ((n).toInt64) 0)]) rfl rfl ?_
    refine wp_if (t := 17) (st := []) rfl rfl (fun hc2 => ?_) (fun hc2 => ?_)
    · skip
      have q2 : (n).toInt < 0 := by have := lc_t_lt hc2; simpa using this
      show mm_Wp _ _ _ 17 _ _ _ _
      refine wp_s (i := .iconst 0) (n := 1) (pc' := 18) (st' := [.int 0]) rfl rfl ?_
      refine wp_r (i := .ireturn) (n := 1) (v := some (.int 0)) rfl rfl ?_
      show mm_Wp X 11 mm_r140 13 [some (.ref 114), some (.int n)] [.int 0] _ _
      refine wp_r (i := .ireturn) (n := 1) (v := some (.int 0)) rfl rfl ?_
      show mm_Wp X 12 mm_r180 5 [some (.ref 114), some (.int n), none, none] [.int 0] _ _
      refine wp_s (i := .ifCond .ne 5) (n := 3) (pc' := 8) (st' := []) rfl rfl ?_
      refine wp_s (i := .iconst (-1)) (n := 1) (pc' := 9) (st' := [.int (-1)]) rfl rfl ?_
      refine wp_r (i := .ireturn) (n := 1) (v := some (.int (-1))) rfl rfl ?_
      exact ⟨rfl, pk_ok0⟩
    · skip
      have q2 : (n).toInt ≥ 0 := by have := lc_f_lt hc2; simpa using this
      exfalso; omega
  · skip
    have q1 : (n).toInt ≥ 0 := by have := mc_f_lt hc1; simpa using this
    show mm_Wp _ _ _ 4 _ _ _ _
    refine wp_s (i := .iload_n 1) (n := 1) (pc' := 5) (st' := [.int n]) rfl rfl ?_
    refine wp_s (i := .aload_n 0) (n := 1) (pc' := 6) (st' := [.ref 0, .int n]) rfl rfl ?_
    refine wp_gf (idx := 24) (a := 0) (v := .ref 25) (pc' := 9) rfl rfl hb_0 rfl rfl ?_
    refine wp_gf (idx := 117) (a := 25) (v := .int 0) (pc' := 12) rfl rfl hb_25 rfl rfl ?_
    refine wp_ic (t := 19) (st := []) rfl rfl (fun hc3 => ?_) (fun hc3 => ?_)
    · skip
      have q3 : (n).toInt ≥ 0 := by have := mc_t_ge hc3; simpa using this
      show mm_Wp _ _ _ 19 _ _ _ _
      refine wp_s (i := .iconst 0) (n := 1) (pc' := 20) (st' := [.int 0]) rfl rfl ?_
      refine wp_r (i := .ireturn) (n := 1) (v := some (.int 0)) rfl rfl ?_
      show mm_Wp X 12 mm_r92 5 [some (.ref 0), some (.int n), none, none] [.int 0] _ _
      refine wp_s (i := .ifCond .ne 5) (n := 3) (pc' := 8) (st' := []) rfl rfl ?_
      refine wp_s (i := .iconst (-1)) (n := 1) (pc' := 9) (st' := [.int (-1)]) rfl rfl ?_
      refine wp_r (i := .ireturn) (n := 1) (v := some (.int (-1))) rfl rfl ?_
      refine ⟨(-1), rfl, ⟨_, hb_114⟩, ?_⟩
      show mm_Wp X 12 mm_r180 0 [some (.ref 114), some (.int n), none, none] [] _ _
      refine wp_s (i := .aload_n 0) (n := 1) (pc' := 1) (st' := [.ref 114]) rfl rfl ?_
      refine wp_s (i := .iload_n 1) (n := 1) (pc' := 2) (st' := [.int n, .ref 114]) rfl rfl ?_
      refine wp_c (i := .invokevirtual 243) (n := 3) (Dq := 11) (r' := mm_r140) (as := [.ref 114, .int n]) (rest := []) (ls' := [some (.ref 114), some (.int n)]) rfl rfl rfl ?_
      refine wp_s (i := .iload_n 1) (n := 1) (pc' := 1) (st' := [.int n]) rfl rfl ?_
      refine wp_s (i := .i2l) (n := 1) (pc' := 2) (st' := [.long ((n).toInt64)]) rfl rfl ?_
      refine wp_s (i := .lconst 0) (n := 1) (pc' := 3) (st' := [.long 0, .long ((n).toInt64)]) rfl rfl ?_
      refine wp_s (i := .aload_n 0) (n := 1) (pc' := 4) (st' := [.ref 114, .long 0, .long ((n).toInt64)]) rfl rfl ?_
      refine wp_gf (idx := 173) (a := 114) (v := .int 0) (pc' := 7) rfl rfl hb_114 rfl rfl ?_
      refine wp_s (i := .iconst 1) (n := 1) (pc' := 8) (st' := [.int 1, .int 0, .long 0, .long ((n).toInt64)]) rfl rfl ?_
      refine wp_s (i := .isub) (n := 1) (pc' := 9) (st' := [.int (-1), .long 0, .long ((n).toInt64)]) rfl rfl ?_
      refine wp_s (i := .i2l) (n := 1) (pc' := 10) (st' := [.long (-1), .long 0, .long ((n).toInt64)]) rfl rfl ?_
      refine wp_c (i := .invokestatic 81) (n := 3) (Dq := 10) (r' := mm_r120) (as := [.long ((n).toInt64), .long 0, .long (-1)]) (rest := []) (ls' := [some (.long ((n).toInt64)), none, some (.long 0), none, some (.long (-1)), none]) rfl rfl rfl ?_
      refine wp_s (i := .lload_n 0) (n := 1) (pc' := 1) (st' := [.long ((n).toInt64)]) rfl rfl ?_
      refine wp_s (i := .lload_n 2) (n := 1) (pc' := 2) (st' := [.long 0, .long ((n).toInt64)]) rfl rfl ?_
      refine wp_s (i := .lcmp) (n := 1) (pc' := 3) (st' := [.int (lg_cmp ((n).toInt64) 0)]) rfl rfl ?_
      refine wp_if (t := 17) (st := []) rfl rfl (fun hc4 => ?_) (fun hc4 => ?_)
      · skip
        have q4 : (n).toInt < 0 := by have := lc_t_lt hc4; simpa using this
        exfalso; omega
      · skip
        have q4 : (n).toInt ≥ 0 := by have := lc_f_lt hc4; simpa using this
        show mm_Wp _ _ _ 6 _ _ _ _
        refine wp_s (i := .lload_n 0) (n := 1) (pc' := 7) (st' := [.long ((n).toInt64)]) rfl rfl ?_
        refine wp_s (i := .lload 4) (n := 2) (pc' := 9) (st' := [.long (-1), .long ((n).toInt64)]) rfl rfl ?_
        refine wp_s (i := .lcmp) (n := 1) (pc' := 10) (st' := [.int (lg_cmp ((n).toInt64) (-1))]) rfl rfl ?_
        refine wp_if (t := 17) (st := []) rfl rfl (fun hc5 => ?_) (fun hc5 => ?_)
        · skip
          have q5 : (n).toInt > -1 := by have := lc_t_gt hc5; simpa using this
          show mm_Wp _ _ _ 17 _ _ _ _
          refine wp_s (i := .iconst 0) (n := 1) (pc' := 18) (st' := [.int 0]) rfl rfl ?_
          refine wp_r (i := .ireturn) (n := 1) (v := some (.int 0)) rfl rfl ?_
          show mm_Wp X 11 mm_r140 13 [some (.ref 114), some (.int n)] [.int 0] _ _
          refine wp_r (i := .ireturn) (n := 1) (v := some (.int 0)) rfl rfl ?_
          show mm_Wp X 12 mm_r180 5 [some (.ref 114), some (.int n), none, none] [.int 0] _ _
          refine wp_s (i := .ifCond .ne 5) (n := 3) (pc' := 8) (st' := []) rfl rfl ?_
          refine wp_s (i := .iconst (-1)) (n := 1) (pc' := 9) (st' := [.int (-1)]) rfl rfl ?_
          refine wp_r (i := .ireturn) (n := 1) (v := some (.int (-1))) rfl rfl ?_
          exact ⟨rfl, pk_ok0⟩
        · skip
          have q5 : (n).toInt ≤ -1 := by have := lc_f_gt hc5; simpa using this
          exfalso; omega
    · skip
      have q3 : (n).toInt < 0 := by have := mc_f_ge hc3; simpa using this
      exfalso; omega
set_option maxRecDepth 20000 in
set_option maxHeartbeats 4000000 in
theorem pk_28 (X : Option (List Int32)) (n : Int32) : mm_Wp X 12 mm_r93 0 [some (.ref 0), some (.int n), none, none, none] [] hp_0 (fun v1 h1 => ∃ x : Int32, v1 = some (.int x) ∧ (∃ fs, h1[114]? = some (.inr (10, fs))) ∧ mm_Wp X 12 mm_r181 0 [some (.ref 114), some (.int n), none, none, none] [] h1 (fun v2 h2 => v2 = some (.int x) ∧ pk_ok h2)) := by
  refine wp_s (i := .aload_n 0) (n := 1) (pc' := 1) (st' := [.ref 0]) rfl rfl ?_
  refine wp_s (i := .iload_n 1) (n := 1) (pc' := 2) (st' := [.int n, .ref 0]) rfl rfl ?_
  refine wp_c (i := .invokevirtual 220) (n := 3) (Dq := 11) (r' := mm_r105) (as := [.ref 0, .int n]) (rest := []) (ls' := [some (.ref 0), some (.int n)]) rfl rfl rfl ?_
  refine wp_s (i := .iload_n 1) (n := 1) (pc' := 1) (st' := [.int n]) rfl rfl ?_
  refine wp_if (t := 19) (st := []) rfl rfl (fun hc1 => ?_) (fun hc1 => ?_)
  · skip
    have q1 : (n).toInt < 0 := by have := mc_t_lt hc1; simpa using this
    show mm_Wp _ _ _ 19 _ _ _ _
    refine wp_s (i := .iconst 0) (n := 1) (pc' := 20) (st' := [.int 0]) rfl rfl ?_
    refine wp_r (i := .ireturn) (n := 1) (v := some (.int 0)) rfl rfl ?_
    show mm_Wp X 12 mm_r93 5 [some (.ref 0), some (.int n), none, none, none] [.int 0] _ _
    refine wp_s (i := .ifCond .ne 5) (n := 3) (pc' := 8) (st' := []) rfl rfl ?_
    refine wp_s (i := .iconst (-1)) (n := 1) (pc' := 9) (st' := [.int (-1)]) rfl rfl ?_
    refine wp_r (i := .ireturn) (n := 1) (v := some (.int (-1))) rfl rfl ?_
    refine ⟨(-1), rfl, ⟨_, hb_114⟩, ?_⟩
    show mm_Wp X 12 mm_r181 0 [some (.ref 114), some (.int n), none, none, none] [] _ _
    refine wp_s (i := .aload_n 0) (n := 1) (pc' := 1) (st' := [.ref 114]) rfl rfl ?_
    refine wp_s (i := .iload_n 1) (n := 1) (pc' := 2) (st' := [.int n, .ref 114]) rfl rfl ?_
    refine wp_c (i := .invokevirtual 243) (n := 3) (Dq := 11) (r' := mm_r140) (as := [.ref 114, .int n]) (rest := []) (ls' := [some (.ref 114), some (.int n)]) rfl rfl rfl ?_
    refine wp_s (i := .iload_n 1) (n := 1) (pc' := 1) (st' := [.int n]) rfl rfl ?_
    refine wp_s (i := .i2l) (n := 1) (pc' := 2) (st' := [.long ((n).toInt64)]) rfl rfl ?_
    refine wp_s (i := .lconst 0) (n := 1) (pc' := 3) (st' := [.long 0, .long ((n).toInt64)]) rfl rfl ?_
    refine wp_s (i := .aload_n 0) (n := 1) (pc' := 4) (st' := [.ref 114, .long 0, .long ((n).toInt64)]) rfl rfl ?_
    refine wp_gf (idx := 173) (a := 114) (v := .int 0) (pc' := 7) rfl rfl hb_114 rfl rfl ?_
    refine wp_s (i := .iconst 1) (n := 1) (pc' := 8) (st' := [.int 1, .int 0, .long 0, .long ((n).toInt64)]) rfl rfl ?_
    refine wp_s (i := .isub) (n := 1) (pc' := 9) (st' := [.int (-1), .long 0, .long ((n).toInt64)]) rfl rfl ?_
    refine wp_s (i := .i2l) (n := 1) (pc' := 10) (st' := [.long (-1), .long 0, .long ((n).toInt64)]) rfl rfl ?_
    refine wp_c (i := .invokestatic 81) (n := 3) (Dq := 10) (r' := mm_r120) (as := [.long ((n).toInt64), .long 0, .long (-1)]) (rest := []) (ls' := [some (.long ((n).toInt64)), none, some (.long 0), none, some (.long (-1)), none]) rfl rfl rfl ?_
    refine wp_s (i := .lload_n 0) (n := 1) (pc' := 1) (st' := [.long ((n).toInt64)]) rfl rfl ?_
    refine wp_s (i := .lload_n 2) (n := 1) (pc' := 2) (st' := [.long 0, .long ((n).toInt64)]) rfl rfl ?_
    refine wp_s (i := .lcmp) (n := 1) (pc' := 3) (st' := [.int (lg_cmp ((n).toInt64) 0)]) rfl rfl ?_
    refine wp_if (t := 17) (st := []) rfl rfl (fun hc2 => ?_) (fun hc2 => ?_)
    · skip
      have q2 : (n).toInt < 0 := by have := lc_t_lt hc2; simpa using this
      show mm_Wp _ _ _ 17 _ _ _ _
      refine wp_s (i := .iconst 0) (n := 1) (pc' := 18) (st' := [.int 0]) rfl rfl ?_
      refine wp_r (i := .ireturn) (n := 1) (v := some (.int 0)) rfl rfl ?_
      show mm_Wp X 11 mm_r140 13 [some (.ref 114), some (.int n)] [.int 0] _ _
      refine wp_r (i := .ireturn) (n := 1) (v := some (.int 0)) rfl rfl ?_
      show mm_Wp X 12 mm_r181 5 [some (.ref 114), some (.int n), none, none, none] [.int 0] _ _
      refine wp_s (i := .ifCond .ne 5) (n := 3) (pc' := 8) (st' := []) rfl rfl ?_
      refine wp_s (i := .iconst (-1)) (n := 1) (pc' := 9) (st' := [.int (-1)]) rfl rfl ?_
      refine wp_r (i := .ireturn) (n := 1) (v := some (.int (-1))) rfl rfl ?_
      exact ⟨rfl, pk_ok0⟩
    · skip
      have q2 : (n).toInt ≥ 0 := by have := lc_f_lt hc2; simpa using this
      exfalso; omega
  · skip
    have q1 : (n).toInt ≥ 0 := by have := mc_f_lt hc1; simpa using this
    show mm_Wp _ _ _ 4 _ _ _ _
    refine wp_s (i := .iload_n 1) (n := 1) (pc' := 5) (st' := [.int n]) rfl rfl ?_
    refine wp_s (i := .aload_n 0) (n := 1) (pc' := 6) (st' := [.ref 0, .int n]) rfl rfl ?_
    refine wp_gf (idx := 24) (a := 0) (v := .ref 25) (pc' := 9) rfl rfl hb_0 rfl rfl ?_
    refine wp_gf (idx := 117) (a := 25) (v := .int 0) (pc' := 12) rfl rfl hb_25 rfl rfl ?_
    refine wp_ic (t := 19) (st := []) rfl rfl (fun hc3 => ?_) (fun hc3 => ?_)
    · skip
      have q3 : (n).toInt ≥ 0 := by have := mc_t_ge hc3; simpa using this
      show mm_Wp _ _ _ 19 _ _ _ _
      refine wp_s (i := .iconst 0) (n := 1) (pc' := 20) (st' := [.int 0]) rfl rfl ?_
      refine wp_r (i := .ireturn) (n := 1) (v := some (.int 0)) rfl rfl ?_
      show mm_Wp X 12 mm_r93 5 [some (.ref 0), some (.int n), none, none, none] [.int 0] _ _
      refine wp_s (i := .ifCond .ne 5) (n := 3) (pc' := 8) (st' := []) rfl rfl ?_
      refine wp_s (i := .iconst (-1)) (n := 1) (pc' := 9) (st' := [.int (-1)]) rfl rfl ?_
      refine wp_r (i := .ireturn) (n := 1) (v := some (.int (-1))) rfl rfl ?_
      refine ⟨(-1), rfl, ⟨_, hb_114⟩, ?_⟩
      show mm_Wp X 12 mm_r181 0 [some (.ref 114), some (.int n), none, none, none] [] _ _
      refine wp_s (i := .aload_n 0) (n := 1) (pc' := 1) (st' := [.ref 114]) rfl rfl ?_
      refine wp_s (i := .iload_n 1) (n := 1) (pc' := 2) (st' := [.int n, .ref 114]) rfl rfl ?_
      refine wp_c (i := .invokevirtual 243) (n := 3) (Dq := 11) (r' := mm_r140) (as := [.ref 114, .int n]) (rest := []) (ls' := [some (.ref 114), some (.int n)]) rfl rfl rfl ?_
      refine wp_s (i := .iload_n 1) (n := 1) (pc' := 1) (st' := [.int n]) rfl rfl ?_
      refine wp_s (i := .i2l) (n := 1) (pc' := 2) (st' := [.long ((n).toInt64)]) rfl rfl ?_
      refine wp_s (i := .lconst 0) (n := 1) (pc' := 3) (st' := [.long 0, .long ((n).toInt64)]) rfl rfl ?_
      refine wp_s (i := .aload_n 0) (n := 1) (pc' := 4) (st' := [.ref 114, .long 0, .long ((n).toInt64)]) rfl rfl ?_
      refine wp_gf (idx := 173) (a := 114) (v := .int 0) (pc' := 7) rfl rfl hb_114 rfl rfl ?_
      refine wp_s (i := .iconst 1) (n := 1) (pc' := 8) (st' := [.int 1, .int 0, .long 0, .long ((n).toInt64)]) rfl rfl ?_
      refine wp_s (i := .isub) (n := 1) (pc' := 9) (st' := [.int (-1), .long 0, .long ((n).toInt64)]) rfl rfl ?_
      refine wp_s (i := .i2l) (n := 1) (pc' := 10) (st' := [.long (-1), .long 0, .long ((n).toInt64)]) rfl rfl ?_
      refine wp_c (i := .invokestatic 81) (n := 3) (Dq := 10) (r' := mm_r120) (as := [.long ((n).toInt64), .long 0, .long (-1)]) (rest := []) (ls' := [some (.long ((n).toInt64)), none, some (.long 0), none, some (.long (-1)), none]) rfl rfl rfl ?_
      refine wp_s (i := .lload_n 0) (n := 1) (pc' := 1) (st' := [.long ((n).toInt64)]) rfl rfl ?_
      refine wp_s (i := .lload_n 2) (n := 1) (pc' := 2) (st' := [.long 0, .long ((n).toInt64)]) rfl rfl ?_
      refine wp_s (i := .lcmp) (n := 1) (pc' := 3) (st' := [.int (lg_cmp ((n).toInt64) 0)]) rfl rfl ?_
      refine wp_if (t := 17) (st := []) rfl rfl (fun hc4 => ?_) (fun hc4 => ?_)
      · skip
        have q4 : (n).toInt < 0 := by have := lc_t_lt hc4; simpa using this
        exfalso; omega
      · skip
        have q4 : (n).toInt ≥ 0 := by have := lc_f_lt hc4; simpa using this
        show mm_Wp _ _ _ 6 _ _ _ _
        refine wp_s (i := .lload_n 0) (n := 1) (pc' := 7) (st' := [.long ((n).toInt64)]) rfl rfl ?_
        refine wp_s (i := .lload 4) (n := 2) (pc' := 9) (st' := [.long (-1), .long ((n).toInt64)]) rfl rfl ?_
        refine wp_s (i := .lcmp) (n := 1) (pc' := 10) (st' := [.int (lg_cmp ((n).toInt64) (-1))]) rfl rfl ?_
        refine wp_if (t := 17) (st := []) rfl rfl (fun hc5 => ?_) (fun hc5 => ?_)
        · skip
          have q5 : (n).toInt > -1 := by have := lc_t_gt hc5; simpa using this
          show mm_Wp _ _ _ 17 _ _ _ _
          refine wp_s (i := .iconst 0) (n := 1) (pc' := 18) (st' := [.int 0]) rfl rfl ?_
          refine wp_r (i := .ireturn) (n := 1) (v := some (.int 0)) rfl rfl ?_
          show mm_Wp X 11 mm_r140 13 [some (.ref 114), some (.int n)] [.int 0] _ _
          refine wp_r (i := .ireturn) (n := 1) (v := some (.int 0)) rfl rfl ?_
          show mm_Wp X 12 mm_r181 5 [some (.ref 114), some (.int n), none, none, none] [.int 0] _ _
          refine wp_s (i := .ifCond .ne 5) (n := 3) (pc' := 8) (st' := []) rfl rfl ?_
          refine wp_s (i := .iconst (-1)) (n := 1) (pc' := 9) (st' := [.int (-1)]) rfl rfl ?_
          refine wp_r (i := .ireturn) (n := 1) (v := some (.int (-1))) rfl rfl ?_
          exact ⟨rfl, pk_ok0⟩
        · skip
          have q5 : (n).toInt ≤ -1 := by have := lc_f_gt hc5; simpa using this
          exfalso; omega
    · skip
      have q3 : (n).toInt < 0 := by have := mc_f_ge hc3; simpa using this
      exfalso; omega
set_option maxRecDepth 20000 in
set_option maxHeartbeats 4000000 in
theorem pk_29 (X : Option (List Int32)) (n w : Int32) : mm_Wp X 12 mm_r94 0 [some (.ref 0), some (.int n), some (.int w), none, none, none] [] hp_0 (fun v1 h1 => ∃ x : Int32, v1 = some (.int x) ∧ (∃ fs, h1[114]? = some (.inr (10, fs))) ∧ mm_Wp X 12 mm_r182 0 [some (.ref 114), some (.int n), some (.int w), none] [] h1 (fun v2 h2 => v2 = some (.int x) ∧ pk_ok h2)) := by
  refine wp_s (i := .aload_n 0) (n := 1) (pc' := 1) (st' := [.ref 0]) rfl rfl ?_
  refine wp_s (i := .iload_n 1) (n := 1) (pc' := 2) (st' := [.int n, .ref 0]) rfl rfl ?_
  refine wp_c (i := .invokevirtual 220) (n := 3) (Dq := 11) (r' := mm_r105) (as := [.ref 0, .int n]) (rest := []) (ls' := [some (.ref 0), some (.int n)]) rfl rfl rfl ?_
  refine wp_s (i := .iload_n 1) (n := 1) (pc' := 1) (st' := [.int n]) rfl rfl ?_
  refine wp_if (t := 19) (st := []) rfl rfl (fun hc1 => ?_) (fun hc1 => ?_)
  · skip
    have q1 : (n).toInt < 0 := by have := mc_t_lt hc1; simpa using this
    show mm_Wp _ _ _ 19 _ _ _ _
    refine wp_s (i := .iconst 0) (n := 1) (pc' := 20) (st' := [.int 0]) rfl rfl ?_
    refine wp_r (i := .ireturn) (n := 1) (v := some (.int 0)) rfl rfl ?_
    show mm_Wp X 12 mm_r94 5 [some (.ref 0), some (.int n), some (.int w), none, none, none] [.int 0] _ _
    refine wp_s (i := .ifCond .eq 11) (n := 3) (pc' := 16) (st' := []) rfl rfl ?_
    refine wp_s (i := .iconst (-1)) (n := 1) (pc' := 17) (st' := [.int (-1)]) rfl rfl ?_
    refine wp_r (i := .ireturn) (n := 1) (v := some (.int (-1))) rfl rfl ?_
    refine ⟨(-1), rfl, ⟨_, hb_114⟩, ?_⟩
    show mm_Wp X 12 mm_r182 0 [some (.ref 114), some (.int n), some (.int w), none] [] _ _
    refine wp_s (i := .aload_n 0) (n := 1) (pc' := 1) (st' := [.ref 114]) rfl rfl ?_
    refine wp_s (i := .iload_n 1) (n := 1) (pc' := 2) (st' := [.int n, .ref 114]) rfl rfl ?_
    refine wp_c (i := .invokevirtual 243) (n := 3) (Dq := 11) (r' := mm_r140) (as := [.ref 114, .int n]) (rest := []) (ls' := [some (.ref 114), some (.int n)]) rfl rfl rfl ?_
    refine wp_s (i := .iload_n 1) (n := 1) (pc' := 1) (st' := [.int n]) rfl rfl ?_
    refine wp_s (i := .i2l) (n := 1) (pc' := 2) (st' := [.long ((n).toInt64)]) rfl rfl ?_
    refine wp_s (i := .lconst 0) (n := 1) (pc' := 3) (st' := [.long 0, .long ((n).toInt64)]) rfl rfl ?_
    refine wp_s (i := .aload_n 0) (n := 1) (pc' := 4) (st' := [.ref 114, .long 0, .long ((n).toInt64)]) rfl rfl ?_
    refine wp_gf (idx := 173) (a := 114) (v := .int 0) (pc' := 7) rfl rfl hb_114 rfl rfl ?_
    refine wp_s (i := .iconst 1) (n := 1) (pc' := 8) (st' := [.int 1, .int 0, .long 0, .long ((n).toInt64)]) rfl rfl ?_
    refine wp_s (i := .isub) (n := 1) (pc' := 9) (st' := [.int (-1), .long 0, .long ((n).toInt64)]) rfl rfl ?_
    refine wp_s (i := .i2l) (n := 1) (pc' := 10) (st' := [.long (-1), .long 0, .long ((n).toInt64)]) rfl rfl ?_
    refine wp_c (i := .invokestatic 81) (n := 3) (Dq := 10) (r' := mm_r120) (as := [.long ((n).toInt64), .long 0, .long (-1)]) (rest := []) (ls' := [some (.long ((n).toInt64)), none, some (.long 0), none, some (.long (-1)), none]) rfl rfl rfl ?_
    refine wp_s (i := .lload_n 0) (n := 1) (pc' := 1) (st' := [.long ((n).toInt64)]) rfl rfl ?_
    refine wp_s (i := .lload_n 2) (n := 1) (pc' := 2) (st' := [.long 0, .long ((n).toInt64)]) rfl rfl ?_
    refine wp_s (i := .lcmp) (n := 1) (pc' := 3) (st' := [.int (lg_cmp ((n).toInt64) 0)]) rfl rfl ?_
    refine wp_if (t := 17) (st := []) rfl rfl (fun hc2 => ?_) (fun hc2 => ?_)
    · skip
      have q2 : (n).toInt < 0 := by have := lc_t_lt hc2; simpa using this
      show mm_Wp _ _ _ 17 _ _ _ _
      refine wp_s (i := .iconst 0) (n := 1) (pc' := 18) (st' := [.int 0]) rfl rfl ?_
      refine wp_r (i := .ireturn) (n := 1) (v := some (.int 0)) rfl rfl ?_
      show mm_Wp X 11 mm_r140 13 [some (.ref 114), some (.int n)] [.int 0] _ _
      refine wp_r (i := .ireturn) (n := 1) (v := some (.int 0)) rfl rfl ?_
      show mm_Wp X 12 mm_r182 5 [some (.ref 114), some (.int n), some (.int w), none] [.int 0] _ _
      refine wp_s (i := .ifCond .eq 11) (n := 3) (pc' := 16) (st' := []) rfl rfl ?_
      refine wp_s (i := .iconst (-1)) (n := 1) (pc' := 17) (st' := [.int (-1)]) rfl rfl ?_
      refine wp_r (i := .ireturn) (n := 1) (v := some (.int (-1))) rfl rfl ?_
      exact ⟨rfl, pk_ok0⟩
    · skip
      have q2 : (n).toInt ≥ 0 := by have := lc_f_lt hc2; simpa using this
      exfalso; omega
  · skip
    have q1 : (n).toInt ≥ 0 := by have := mc_f_lt hc1; simpa using this
    show mm_Wp _ _ _ 4 _ _ _ _
    refine wp_s (i := .iload_n 1) (n := 1) (pc' := 5) (st' := [.int n]) rfl rfl ?_
    refine wp_s (i := .aload_n 0) (n := 1) (pc' := 6) (st' := [.ref 0, .int n]) rfl rfl ?_
    refine wp_gf (idx := 24) (a := 0) (v := .ref 25) (pc' := 9) rfl rfl hb_0 rfl rfl ?_
    refine wp_gf (idx := 117) (a := 25) (v := .int 0) (pc' := 12) rfl rfl hb_25 rfl rfl ?_
    refine wp_ic (t := 19) (st := []) rfl rfl (fun hc3 => ?_) (fun hc3 => ?_)
    · skip
      have q3 : (n).toInt ≥ 0 := by have := mc_t_ge hc3; simpa using this
      show mm_Wp _ _ _ 19 _ _ _ _
      refine wp_s (i := .iconst 0) (n := 1) (pc' := 20) (st' := [.int 0]) rfl rfl ?_
      refine wp_r (i := .ireturn) (n := 1) (v := some (.int 0)) rfl rfl ?_
      show mm_Wp X 12 mm_r94 5 [some (.ref 0), some (.int n), some (.int w), none, none, none] [.int 0] _ _
      refine wp_s (i := .ifCond .eq 11) (n := 3) (pc' := 16) (st' := []) rfl rfl ?_
      refine wp_s (i := .iconst (-1)) (n := 1) (pc' := 17) (st' := [.int (-1)]) rfl rfl ?_
      refine wp_r (i := .ireturn) (n := 1) (v := some (.int (-1))) rfl rfl ?_
      refine ⟨(-1), rfl, ⟨_, hb_114⟩, ?_⟩
      show mm_Wp X 12 mm_r182 0 [some (.ref 114), some (.int n), some (.int w), none] [] _ _
      refine wp_s (i := .aload_n 0) (n := 1) (pc' := 1) (st' := [.ref 114]) rfl rfl ?_
      refine wp_s (i := .iload_n 1) (n := 1) (pc' := 2) (st' := [.int n, .ref 114]) rfl rfl ?_
      refine wp_c (i := .invokevirtual 243) (n := 3) (Dq := 11) (r' := mm_r140) (as := [.ref 114, .int n]) (rest := []) (ls' := [some (.ref 114), some (.int n)]) rfl rfl rfl ?_
      refine wp_s (i := .iload_n 1) (n := 1) (pc' := 1) (st' := [.int n]) rfl rfl ?_
      refine wp_s (i := .i2l) (n := 1) (pc' := 2) (st' := [.long ((n).toInt64)]) rfl rfl ?_
      refine wp_s (i := .lconst 0) (n := 1) (pc' := 3) (st' := [.long 0, .long ((n).toInt64)]) rfl rfl ?_
      refine wp_s (i := .aload_n 0) (n := 1) (pc' := 4) (st' := [.ref 114, .long 0, .long ((n).toInt64)]) rfl rfl ?_
      refine wp_gf (idx := 173) (a := 114) (v := .int 0) (pc' := 7) rfl rfl hb_114 rfl rfl ?_
      refine wp_s (i := .iconst 1) (n := 1) (pc' := 8) (st' := [.int 1, .int 0, .long 0, .long ((n).toInt64)]) rfl rfl ?_
      refine wp_s (i := .isub) (n := 1) (pc' := 9) (st' := [.int (-1), .long 0, .long ((n).toInt64)]) rfl rfl ?_
      refine wp_s (i := .i2l) (n := 1) (pc' := 10) (st' := [.long (-1), .long 0, .long ((n).toInt64)]) rfl rfl ?_
      refine wp_c (i := .invokestatic 81) (n := 3) (Dq := 10) (r' := mm_r120) (as := [.long ((n).toInt64), .long 0, .long (-1)]) (rest := []) (ls' := [some (.long ((n).toInt64)), none, some (.long 0), none, some (.long (-1)), none]) rfl rfl rfl ?_
      refine wp_s (i := .lload_n 0) (n := 1) (pc' := 1) (st' := [.long ((n).toInt64)]) rfl rfl ?_
      refine wp_s (i := .lload_n 2) (n := 1) (pc' := 2) (st' := [.long 0, .long ((n).toInt64)]) rfl rfl ?_
      refine wp_s (i := .lcmp) (n := 1) (pc' := 3) (st' := [.int (lg_cmp ((n).toInt64) 0)]) rfl rfl ?_
      refine wp_if (t := 17) (st := []) rfl rfl (fun hc4 => ?_) (fun hc4 => ?_)
      · skip
        have q4 : (n).toInt < 0 := by have := lc_t_lt hc4; simpa using this
        exfalso; omega
      · skip
        have q4 : (n).toInt ≥ 0 := by have := lc_f_lt hc4; simpa using this
        show mm_Wp _ _ _ 6 _ _ _ _
        refine wp_s (i := .lload_n 0) (n := 1) (pc' := 7) (st' := [.long ((n).toInt64)]) rfl rfl ?_
        refine wp_s (i := .lload 4) (n := 2) (pc' := 9) (st' := [.long (-1), .long ((n).toInt64)]) rfl rfl ?_
        refine wp_s (i := .lcmp) (n := 1) (pc' := 10) (st' := [.int (lg_cmp ((n).toInt64) (-1))]) rfl rfl ?_
        refine wp_if (t := 17) (st := []) rfl rfl (fun hc5 => ?_) (fun hc5 => ?_)
        · skip
          have q5 : (n).toInt > -1 := by have := lc_t_gt hc5; simpa using this
          show mm_Wp _ _ _ 17 _ _ _ _
          refine wp_s (i := .iconst 0) (n := 1) (pc' := 18) (st' := [.int 0]) rfl rfl ?_
          refine wp_r (i := .ireturn) (n := 1) (v := some (.int 0)) rfl rfl ?_
          show mm_Wp X 11 mm_r140 13 [some (.ref 114), some (.int n)] [.int 0] _ _
          refine wp_r (i := .ireturn) (n := 1) (v := some (.int 0)) rfl rfl ?_
          show mm_Wp X 12 mm_r182 5 [some (.ref 114), some (.int n), some (.int w), none] [.int 0] _ _
          refine wp_s (i := .ifCond .eq 11) (n := 3) (pc' := 16) (st' := []) rfl rfl ?_
          refine wp_s (i := .iconst (-1)) (n := 1) (pc' := 17) (st' := [.int (-1)]) rfl rfl ?_
          refine wp_r (i := .ireturn) (n := 1) (v := some (.int (-1))) rfl rfl ?_
          exact ⟨rfl, pk_ok0⟩
        · skip
          have q5 : (n).toInt ≤ -1 := by have := lc_f_gt hc5; simpa using this
          exfalso; omega
    · skip
      have q3 : (n).toInt < 0 := by have := mc_f_ge hc3; simpa using this
      exfalso; omega
