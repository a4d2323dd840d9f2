set_option maxRecDepth 20000 in
set_option maxHeartbeats 4000000 in
theorem pk_33_0 (X : Option (List Int32)) (w u : Int32) : mm_Wp X 12 mm_r98 0 [some (.ref 0), some (.int 0), some (.int w), some (.int u)] [] hp_0 (fun v1 h1 => ∃ x : Int32, v1 = some (.int x) ∧ (∃ fs, h1[114]? = some (.inr (10, fs))) ∧ mm_Wp X 12 mm_r187 0 [some (.ref 114), some (.int 0), some (.int w), some (.int u), none] [] h1 (fun v2 h2 => v2 = some (.int x) ∧ pk_ok h2)) := by
  refine wp_s (i := .iload_n 1) (n := 1) (pc' := 1) (st' := [.int 0]) rfl rfl ?_
  refine wp_c (i := .invokestatic 301) (n := 3) (Dq := 11) (r' := mm_r107) (as := [.int 0]) (rest := []) (ls' := [some (.int 0)]) rfl rfl rfl ?_
  refine wp_x 13 (v := some (.int 1)) (h' := hp_0) (mm_dec (by decide +kernel)) ?_
  show mm_Wp X 12 mm_r98 4 [some (.ref 0), some (.int 0), some (.int w), some (.int u)] [.int 1] _ _
  refine wp_s (i := .ifCond .eq 16) (n := 3) (pc' := 7) (st' := []) rfl rfl ?_
  refine wp_s (i := .iload_n 2) (n := 1) (pc' := 8) (st' := [.int w]) rfl rfl ?_
  refine wp_c (i := .invokestatic 304) (n := 3) (Dq := 11) (r' := mm_r108) (as := [.int w]) (rest := []) (ls' := [some (.int w)]) rfl rfl rfl ?_
  refine wp_s (i := .iload_n 0) (n := 1) (pc' := 1) (st' := [.int w]) rfl rfl ?_
  refine wp_if (t := 13) (st := []) rfl rfl (fun hc1 => ?_) (fun hc1 => ?_)
  · skip
    have q1 : (w).toInt < 0 := by have := mc_t_lt hc1; simpa using this
    show mm_Wp _ _ _ 13 _ _ _ _
    refine wp_s (i := .iconst 0) (n := 1) (pc' := 14) (st' := [.int 0]) rfl rfl ?_
    refine wp_r (i := .ireturn) (n := 1) (v := some (.int 0)) rfl rfl ?_
    show mm_Wp X 12 mm_r98 11 [some (.ref 0), some (.int 0), some (.int w), some (.int u)] [.int 0] _ _
    refine wp_s (i := .ifCond .eq 9) (n := 3) (pc' := 20) (st' := []) rfl rfl ?_
    refine wp_s (i := .iconst (-1)) (n := 1) (pc' := 21) (st' := [.int (-1)]) rfl rfl ?_
    refine wp_r (i := .ireturn) (n := 1) (v := some (.int (-1))) rfl rfl ?_
    refine ⟨(-1), rfl, ⟨_, hb_114⟩, ?_⟩
    show mm_Wp X 12 mm_r187 0 [some (.ref 114), some (.int 0), some (.int w), some (.int u), none] [] _ _
    refine wp_s (i := .iload_n 1) (n := 1) (pc' := 1) (st' := [.int 0]) rfl rfl ?_
    refine wp_s (i := .i2l) (n := 1) (pc' := 2) (st' := [.long 0]) rfl rfl ?_
    refine wp_s (i := .lconst 0) (n := 1) (pc' := 3) (st' := [.long 0, .long 0]) rfl rfl ?_
    refine wp_s (i := .ldc2_w 285) (n := 3) (pc' := 6) (st' := [.long 3, .long 0, .long 0]) rfl rfl ?_
    refine wp_c (i := .invokestatic 81) (n := 3) (Dq := 11) (r' := mm_r120) (as := [.long 0, .long 0, .long 3]) (rest := []) (ls' := [some (.long 0), none, some (.long 0), none, some (.long 3), none]) rfl rfl rfl ?_
    refine wp_x 16 (v := some (.int 1)) (h' := hp_0) (mm_dec (by decide +kernel)) ?_
    show mm_Wp X 12 mm_r187 9 [some (.ref 114), some (.int 0), some (.int w), some (.int u), none] [.int 1] _ _
    refine wp_s (i := .ifCond .eq 21) (n := 3) (pc' := 12) (st' := []) rfl rfl ?_
    refine wp_s (i := .iload_n 2) (n := 1) (pc' := 13) (st' := [.int w]) rfl rfl ?_
    refine wp_s (i := .i2l) (n := 1) (pc' := 14) (st' := [.long ((w).toInt64)]) rfl rfl ?_
    refine wp_s (i := .lconst 0) (n := 1) (pc' := 15) (st' := [.long 0, .long ((w).toInt64)]) rfl rfl ?_
    refine wp_s (i := .ldc2_w 198) (n := 3) (pc' := 18) (st' := [.long 2, .long 0, .long ((w).toInt64)]) rfl rfl ?_
    refine wp_c (i := .invokestatic 81) (n := 3) (Dq := 11) (r' := mm_r120) (as := [.long ((w).toInt64), .long 0, .long 2]) (rest := []) (ls' := [some (.long ((w).toInt64)), none, some (.long 0), none, some (.long 2), none]) rfl rfl rfl ?_
    refine wp_s (i := .lload_n 0) (n := 1) (pc' := 1) (st' := [.long ((w).toInt64)]) rfl rfl ?_
    refine wp_s (i := .lload_n 2) (n := 1) (pc' := 2) (st' := [.long 0, .long ((w).toInt64)]) rfl rfl ?_
    refine wp_s (i := .lcmp) (n := 1) (pc' := 3) (st' := [.int (lg_cmp ((w).toInt64) 0)]) rfl rfl ?_
    refine wp_if (t := 17) (st := []) rfl rfl (fun hc2 => ?_) (fun hc2 => ?_)
    · skip
      have q2 : (w).toInt < 0 := by have := lc_t_lt hc2; simpa using this
      show mm_Wp _ _ _ 17 _ _ _ _
      refine wp_s (i := .iconst 0) (n := 1) (pc' := 18) (st' := [.int 0]) rfl rfl ?_
      refine wp_r (i := .ireturn) (n := 1) (v := some (.int 0)) rfl rfl ?_
      show mm_Wp X 12 mm_r187 21 [some (.ref 114), some (.int 0), some (.int w), some (.int u), none] [.int 0] _ _
      refine wp_s (i := .ifCond .eq 9) (n := 3) (pc' := 30) (st' := []) rfl rfl ?_
      refine wp_s (i := .iconst (-1)) (n := 1) (pc' := 31) (st' := [.int (-1)]) rfl rfl ?_
      refine wp_r (i := .ireturn) (n := 1) (v := some (.int (-1))) rfl rfl ?_
      exact ⟨rfl, pk_ok0⟩
    · skip
      have q2 : (w).toInt ≥ 0 := by have := lc_f_lt hc2; simpa using this
      exfalso; omega
  · skip
    have q1 : (w).toInt ≥ 0 := by have := mc_f_lt hc1; simpa using this
    show mm_Wp _ _ _ 4 _ _ _ _
    refine wp_s (i := .iload_n 0) (n := 1) (pc' := 5) (st' := [.int w]) rfl rfl ?_
    refine wp_s (i := .iconst 3) (n := 1) (pc' := 6) (st' := [.int 3, .int w]) rfl rfl ?_
    refine wp_ic (t := 13) (st := []) rfl rfl (fun hc3 => ?_) (fun hc3 => ?_)
    · skip
      have q3 : (w).toInt ≥ 3 := by have := mc_t_ge hc3; simpa using this
      show mm_Wp _ _ _ 13 _ _ _ _
      refine wp_s (i := .iconst 0) (n := 1) (pc' := 14) (st' := [.int 0]) rfl rfl ?_
      refine wp_r (i := .ireturn) (n := 1) (v := some (.int 0)) rfl rfl ?_
      show mm_Wp X 12 mm_r98 11 [some (.ref 0), some (.int 0), some (.int w), some (.int u)] [.int 0] _ _
      refine wp_s (i := .ifCond .eq 9) (n := 3) (pc' := 20) (st' := []) rfl rfl ?_
      refine wp_s (i := .iconst (-1)) (n := 1) (pc' := 21) (st' := [.int (-1)]) rfl rfl ?_
      refine wp_r (i := .ireturn) (n := 1) (v := some (.int (-1))) rfl rfl ?_
      refine ⟨(-1), rfl, ⟨_, hb_114⟩, ?_⟩
      show mm_Wp X 12 mm_r187 0 [some (.ref 114), some (.int 0), some (.int w), some (.int u), none] [] _ _
      refine wp_s (i := .iload_n 1) (n := 1) (pc' := 1) (st' := [.int 0]) rfl rfl ?_
      refine wp_s (i := .i2l) (n := 1) (pc' := 2) (st' := [.long 0]) rfl rfl ?_
      refine wp_s (i := .lconst 0) (n := 1) (pc' := 3) (st' := [.long 0, .long 0]) rfl rfl ?_
      refine wp_s (i := .ldc2_w 285) (n := 3) (pc' := 6) (st' := [.long 3, .long 0, .long 0]) rfl rfl ?_
      refine wp_c (i := .invokestatic 81) (n := 3) (Dq := 11) (r' := mm_r120) (as := [.long 0, .long 0, .long 3]) (rest := []) (ls' := [some (.long 0), none, some (.long 0), none, some (.long 3), none]) rfl rfl rfl ?_
      refine wp_x 16 (v := some (.int 1)) (h' := hp_0) (mm_dec (by decide +kernel)) ?_
      show mm_Wp X 12 mm_r187 9 [some (.ref 114), some (.int 0), some (.int w), some (.int u), none] [.int 1] _ _
      refine wp_s (i := .ifCond .eq 21) (n := 3) (pc' := 12) (st' := []) rfl rfl ?_
      refine wp_s (i := .iload_n 2) (n := 1) (pc' := 13) (st' := [.int w]) rfl rfl ?_
      refine wp_s (i := .i2l) (n := 1) (pc' := 14) (st' := [.long ((w).toInt64)]) rfl rfl ?_
      refine wp_s (i := .lconst 0) (n := 1) (pc' := 15) (st' := [.long 0, .long ((w).toInt64)]) rfl rfl ?_
      refine wp_s (i := .ldc2_w 198) (n := 3) (pc' := 18) (st' := [.long 2, .long 0, .long ((w).toInt64)]) rfl rfl ?_
      refine wp_c (i := .invokestatic 81) (n := 3) (Dq := 11) (r' := mm_r120) (as := [.long ((w).toInt64), .long 0, .long 2]) (rest := []) (ls' := [some (.long ((w).toInt64)), none, some (.long 0), none, some (.long 2), none]) rfl rfl rfl ?_
      refine wp_s (i := .lload_n 0) (n := 1) (pc' := 1) (st' := [.long ((w).toInt64)]) rfl rfl ?_
      refine wp_s (i := .lload_n 2) (n := 1) (pc' := 2) (st' := [.long 0, .long ((w).toInt64)]) rfl rfl ?_
      refine wp_s (i := .lcmp) (n := 1) (pc' := 3) (st' := [.int (lg_cmp ((w).toInt64) 0)]) rfl rfl ?_
      refine wp_if (t := 17) (st := []) rfl rfl (fun hc4 => ?_) (fun hc4 => ?_)
      · skip
        have q4 : (w).toInt < 0 := by have := lc_t_lt hc4; simpa using this
        exfalso; omega
      · skip
        have q4 : (w).toInt ≥ 0 := by have := lc_f_lt hc4; simpa using this
        show mm_Wp _ _ _ 6 _ _ _ _
        refine wp_s (i := .lload_n 0) (n := 1) (pc' := 7) (st' := [.long ((w).toInt64)]) rfl rfl ?_
        refine wp_s (i := .lload 4) (n := 2) (pc' := 9) (st' := [.long 2, .long ((w).toInt64)]) rfl rfl ?_
        refine wp_s (i := .lcmp) (n := 1) (pc' := 10) (st' := [.int (lg_cmp ((w).toInt64) 2)]) rfl rfl ?_
        refine wp_if (t := 17) (st := []) rfl rfl (fun hc5 => ?_) (fun hc5 => ?_)
        · skip
          have q5 : (w).toInt > 2 := by have := lc_t_gt hc5; simpa using this
          show mm_Wp _ _ _ 17 _ _ _ _
          refine wp_s (i := .iconst 0) (n := 1) (pc' := 18) (st' := [.int 0]) rfl rfl ?_
          refine wp_r (i := .ireturn) (n := 1) (v := some (.int 0)) rfl rfl ?_
          show mm_Wp X 12 mm_r187 21 [some (.ref 114), some (.int 0), some (.int w), some (.int u), none] [.int 0] _ _
          refine wp_s (i := .ifCond .eq 9) (n := 3) (pc' := 30) (st' := []) rfl rfl ?_
          refine wp_s (i := .iconst (-1)) (n := 1) (pc' := 31) (st' := [.int (-1)]) rfl rfl ?_
          refine wp_r (i := .ireturn) (n := 1) (v := some (.int (-1))) rfl rfl ?_
          exact ⟨rfl, pk_ok0⟩
        · skip
          have q5 : (w).toInt ≤ 2 := by have := lc_f_gt hc5; simpa using this
          exfalso; omega
    · skip
      have q3 : (w).toInt < 3 := by have := mc_f_ge hc3; simpa using this
      show mm_Wp _ _ _ 9 _ _ _ _
      refine wp_s (i := .iconst 1) (n := 1) (pc' := 10) (st' := [.int 1]) rfl rfl ?_
      refine wp_s (i := .goto 4) (n := 3) (pc' := 14) (st' := [.int 1]) rfl rfl ?_
      refine wp_r (i := .ireturn) (n := 1) (v := some (.int 1)) rfl rfl ?_
      show mm_Wp X 12 mm_r98 11 [some (.ref 0), some (.int 0), some (.int w), some (.int u)] [.int 1] _ _
      refine wp_s (i := .ifCond .eq 9) (n := 3) (pc' := 14) (st' := []) rfl rfl ?_
      refine wp_s (i := .iload_n 3) (n := 1) (pc' := 15) (st' := [.int u]) rfl rfl ?_
      refine wp_s (i := .bipush 40) (n := 2) (pc' := 17) (st' := [.int 40, .int u]) rfl rfl ?_
      refine wp_ic (t := 22) (st := []) rfl rfl (fun hc6 => ?_) (fun hc6 => ?_)
      · skip
        have q6 : (u).toInt ≤ 40 := by have := mc_t_le hc6; simpa using this
        show mm_Wp _ _ _ 22 _ _ _ _
        refine wp_s (i := .iload_n 3) (n := 1) (pc' := 23) (st' := [.int u]) rfl rfl ?_
        refine wp_if (t := 29) (st := []) rfl rfl (fun hc7 => ?_) (fun hc7 => ?_)
        · skip
          have q7 : (u).toInt ≥ 0 := by have := mc_t_ge hc7; simpa using this
          show mm_Wp _ _ _ 29 _ _ _ _
          refine wp_s (i := .aload_n 0) (n := 1) (pc' := 30) (st' := [.ref 0]) rfl rfl ?_
          refine wp_gf (idx := 64) (a := 0) (v := .ref 67) (pc' := 33) rfl rfl hb_0 rfl rfl ?_
          refine wp_s (i := .iload_n 1) (n := 1) (pc' := 34) (st' := [.int 0, .ref 67]) rfl rfl ?_
          refine wp_aa (b := 106) (pc' := 35) rfl (by decide) hb_67 rfl rfl rfl ?_
          refine wp_s (i := .iload_n 2) (n := 1) (pc' := 36) (st' := [.int w, .ref 106]) rfl rfl ?_
          refine wp_s (i := .iload_n 3) (n := 1) (pc' := 37) (st' := [.int u, .int w, .ref 106]) rfl rfl ?_
          refine wp_c (i := .invokevirtual 307) (n := 3) (Dq := 11) (r' := mm_r59) (as := [.ref 106, .int w, .int u]) (rest := []) (ls' := [some (.ref 106), some (.int w), some (.int u)]) rfl rfl rfl ?_
          refine wp_s (i := .aload_n 0) (n := 1) (pc' := 1) (st' := [.ref 106]) rfl rfl ?_
          refine wp_gf (idx := 9) (a := 106) (v := .ref 107) (pc' := 4) rfl rfl hb_106 rfl rfl ?_
          refine wp_s (i := .iconst 0) (n := 1) (pc' := 5) (st' := [.int 0, .ref 107]) rfl rfl ?_
          refine wp_c (i := .invokestatic 19) (n := 3) (Dq := 10) (r' := mm_r194) (as := [.ref 107, .int 0]) (rest := []) (ls' := [some (.ref 107), some (.int 0), none, none]) rfl rfl rfl ?_
          refine wp_x 374 (v := none) (h' := hp_0) (mm_dec (by decide +kernel)) ?_
          show mm_Wp X 11 mm_r59 8 [some (.ref 106), some (.int w), some (.int u)] [] _ _
          refine wp_s (i := .aload_n 0) (n := 1) (pc' := 9) (st' := [.ref 106]) rfl rfl ?_
          refine wp_s (i := .iload_n 1) (n := 1) (pc' := 10) (st' := [.int w, .ref 106]) rfl rfl ?_
          refine wp_pf (idx := 25) (a := 106) (fs' := [.ref 107, .int w, .int (-1)]) (pc' := 13) rfl rfl rfl hb_106 rfl rfl rfl rfl rfl ?_
          refine wp_s (i := .aload_n 0) (n := 1) (pc' := 14) (st' := [.ref 106]) rfl rfl ?_
          refine wp_s (i := .iload_n 2) (n := 1) (pc' := 15) (st' := [.int u, .ref 106]) rfl rfl ?_
          refine wp_pf (idx := 15) (a := 106) (fs' := [.ref 107, .int w, .int u]) (pc' := 18) rfl rfl rfl (mm_ss hb_106) rfl rfl rfl mm_rs2 rfl ?_
          refine wp_r (i := .return_) (n := 1) (v := none) rfl rfl ?_
          show mm_Wp X 12 mm_r98 40 [some (.ref 0), some (.int 0), some (.int w), some (.int u)] [] _ _
          refine wp_s (i := .iconst 1) (n := 1) (pc' := 41) (st' := [.int 1]) rfl rfl ?_
          refine wp_r (i := .ireturn) (n := 1) (v := some (.int 1)) rfl rfl ?_
          refine ⟨1, rfl, ⟨_, (mm_sn rfl hb_114)⟩, ?_⟩
          show mm_Wp X 12 mm_r187 0 [some (.ref 114), some (.int 0), some (.int w), some (.int u), none] [] _ _
          refine wp_s (i := .iload_n 1) (n := 1) (pc' := 1) (st' := [.int 0]) rfl rfl ?_
          refine wp_s (i := .i2l) (n := 1) (pc' := 2) (st' := [.long 0]) rfl rfl ?_
          refine wp_s (i := .lconst 0) (n := 1) (pc' := 3) (st' := [.long 0, .long 0]) rfl rfl ?_
          refine wp_s (i := .ldc2_w 285) (n := 3) (pc' := 6) (st' := [.long 3, .long 0, .long 0]) rfl rfl ?_
          refine wp_c (i := .invokestatic 81) (n := 3) (Dq := 11) (r' := mm_r120) (as := [.long 0, .long 0, .long 3]) (rest := []) (ls' := [some (.long 0), none, some (.long 0), none, some (.long 3), none]) rfl rfl rfl ?_
          refine wp_s (i := .lload_n 0) (n := 1) (pc' := 1) (st' := [.long 0]) rfl rfl ?_
          refine wp_s (i := .lload_n 2) (n := 1) (pc' := 2) (st' := [.long 0, .long 0]) rfl rfl ?_
          refine wp_s (i := .lcmp) (n := 1) (pc' := 3) (st' := [.int 0]) rfl rfl ?_
          refine wp_s (i := .ifCond .lt 14) (n := 3) (pc' := 6) (st' := []) rfl rfl ?_
          refine wp_s (i := .lload_n 0) (n := 1) (pc' := 7) (st' := [.long 0]) rfl rfl ?_
          refine wp_s (i := .lload 4) (n := 2) (pc' := 9) (st' := [.long 3, .long 0]) rfl rfl ?_
          refine wp_s (i := .lcmp) (n := 1) (pc' := 10) (st' := [.int (-1)]) rfl rfl ?_
          refine wp_s (i := .ifCond .gt 7) (n := 3) (pc' := 13) (st' := []) rfl rfl ?_
          refine wp_s (i := .iconst 1) (n := 1) (pc' := 14) (st' := [.int 1]) rfl rfl ?_
          refine wp_s (i := .goto 4) (n := 3) (pc' := 18) (st' := [.int 1]) rfl rfl ?_
          refine wp_r (i := .ireturn) (n := 1) (v := some (.int 1)) rfl rfl ?_
          show mm_Wp X 12 mm_r187 9 [some (.ref 114), some (.int 0), some (.int w), some (.int u), none] [.int 1] _ _
          refine wp_s (i := .ifCond .eq 21) (n := 3) (pc' := 12) (st' := []) rfl rfl ?_
          refine wp_s (i := .iload_n 2) (n := 1) (pc' := 13) (st' := [.int w]) rfl rfl ?_
          refine wp_s (i := .i2l) (n := 1) (pc' := 14) (st' := [.long ((w).toInt64)]) rfl rfl ?_
          refine wp_s (i := .lconst 0) (n := 1) (pc' := 15) (st' := [.long 0, .long ((w).toInt64)]) rfl rfl ?_
          refine wp_s (i := .ldc2_w 198) (n := 3) (pc' := 18) (st' := [.long 2, .long 0, .long ((w).toInt64)]) rfl rfl ?_
          refine wp_c (i := .invokestatic 81) (n := 3) (Dq := 11) (r' := mm_r120) (as := [.long ((w).toInt64), .long 0, .long 2]) (rest := []) (ls' := [some (.long ((w).toInt64)), none, some (.long 0), none, some (.long 2), none]) rfl rfl rfl ?_
          refine wp_s (i := .lload_n 0) (n := 1) (pc' := 1) (st' := [.long ((w).toInt64)]) rfl rfl ?_
          refine wp_s (i := .lload_n 2) (n := 1) (pc' := 2) (st' := [.long 0, .long ((w).toInt64)]) rfl rfl ?_
          refine wp_s (i := .lcmp) (n := 1) (pc' := 3) (st' := [.int (lg_cmp ((w).toInt64) 0)]) rfl rfl ?_
          refine wp_if (t := 17) (st := []) rfl rfl (fun hc8 => ?_) (fun hc8 => ?_)
          · skip
            have q8 : (w).toInt < 0 := by have := lc_t_lt hc8; simpa using this
            exfalso; omega
          · skip
            have q8 : (w).toInt ≥ 0 := by have := lc_f_lt hc8; simpa using this
            show mm_Wp _ _ _ 6 _ _ _ _
            refine wp_s (i := .lload_n 0) (n := 1) (pc' := 7) (st' := [.long ((w).toInt64)]) rfl rfl ?_
            refine wp_s (i := .lload 4) (n := 2) (pc' := 9) (st' := [.long 2, .long ((w).toInt64)]) rfl rfl ?_
            refine wp_s (i := .lcmp) (n := 1) (pc' := 10) (st' := [.int (lg_cmp ((w).toInt64) 2)]) rfl rfl ?_
            refine wp_if (t := 17) (st := []) rfl rfl (fun hc9 => ?_) (fun hc9 => ?_)
            · skip
              have q9 : (w).toInt > 2 := by have := lc_t_gt hc9; simpa using this
              exfalso; omega
            · skip
              have q9 : (w).toInt ≤ 2 := by have := lc_f_gt hc9; simpa using this
              show mm_Wp _ _ _ 13 _ _ _ _
              refine wp_s (i := .iconst 1) (n := 1) (pc' := 14) (st' := [.int 1]) rfl rfl ?_
              refine wp_s (i := .goto 4) (n := 3) (pc' := 18) (st' := [.int 1]) rfl rfl ?_
              refine wp_r (i := .ireturn) (n := 1) (v := some (.int 1)) rfl rfl ?_
              show mm_Wp X 12 mm_r187 21 [some (.ref 114), some (.int 0), some (.int w), some (.int u), none] [.int 1] _ _
              refine wp_s (i := .ifCond .eq 9) (n := 3) (pc' := 24) (st' := []) rfl rfl ?_
              refine wp_s (i := .iload_n 3) (n := 1) (pc' := 25) (st' := [.int u]) rfl rfl ?_
              refine wp_s (i := .bipush 40) (n := 2) (pc' := 27) (st' := [.int 40, .int u]) rfl rfl ?_
              refine wp_ic (t := 32) (st := []) rfl rfl (fun hc10 => ?_) (fun hc10 => ?_)
              · skip
                have q10 : (u).toInt ≤ 40 := by have := mc_t_le hc10; simpa using this
                show mm_Wp _ _ _ 32 _ _ _ _
                refine wp_s (i := .iload_n 3) (n := 1) (pc' := 33) (st' := [.int u]) rfl rfl ?_
                refine wp_if (t := 39) (st := []) rfl rfl (fun hc11 => ?_) (fun hc11 => ?_)
                · skip
                  have q11 : (u).toInt ≥ 0 := by have := mc_t_ge hc11; simpa using this
                  show mm_Wp _ _ _ 39 _ _ _ _
                  refine wp_s (i := .aload_n 0) (n := 1) (pc' := 40) (st' := [.ref 114]) rfl rfl ?_
                  refine wp_gf (idx := 68) (a := 114) (v := .ref 134) (pc' := 43) rfl rfl (mm_sn rfl hb_114) rfl rfl ?_
                  refine wp_s (i := .iload_n 1) (n := 1) (pc' := 44) (st' := [.int 0, .ref 134]) rfl rfl ?_
                  refine wp_s (i := .iload_n 2) (n := 1) (pc' := 45) (st' := [.int w, .int 0, .ref 134]) rfl rfl ?_
                  refine wp_is (l' := (([(-4), (-4), (-4), (-4)]).set 0 w)) (pc' := 46) rfl (mm_sn rfl hb_134) rfl rfl rfl rfl ?_
                  refine wp_s (i := .aload_n 0) (n := 1) (pc' := 47) (st' := [.ref 114]) rfl rfl ?_
                  refine wp_gf (idx := 71) (a := 114) (v := .ref 135) (pc' := 50) rfl rfl (mm_sn rfl (mm_sn rfl hb_114)) rfl rfl ?_
                  refine wp_s (i := .iload_n 1) (n := 1) (pc' := 51) (st' := [.int 0, .ref 135]) rfl rfl ?_
                  refine wp_s (i := .iload_n 3) (n := 1) (pc' := 52) (st' := [.int u, .int 0, .ref 135]) rfl rfl ?_
                  refine wp_is (l' := (([0, 0, 0, 0]).set 0 u)) (pc' := 53) rfl (mm_sn rfl (mm_sn rfl hb_135)) rfl rfl rfl rfl ?_
                  refine wp_s (i := .iconst 0) (n := 1) (pc' := 54) (st' := [.int 0]) rfl rfl ?_
                  refine wp_s (i := .istore 4) (n := 2) (pc' := 56) (ls' := [some (.ref 114), some (.int 0), some (.int w), some (.int u), some (.int 0)]) (st' := []) rfl rfl ?_
                  refine wp_s (i := .iload 4) (n := 2) (pc' := 58) (st' := [.int 0]) rfl rfl ?_
                  refine wp_s (i := .bipush 40) (n := 2) (pc' := 60) (st' := [.int 40, .int 0]) rfl rfl ?_
                  refine wp_s (i := .if_icmp .ge 22) (n := 3) (pc' := 63) (st' := []) rfl rfl ?_
                  refine wp_s (i := .aload_n 0) (n := 1) (pc' := 64) (st' := [.ref 114]) rfl rfl ?_
                  refine wp_gf (idx := 74) (a := 114) (v := .ref 136) (pc' := 67) rfl rfl (mm_sn rfl (mm_sn rfl (mm_sn rfl hb_114))) rfl rfl ?_
                  refine wp_s (i := .bipush 40) (n := 2) (pc' := 69) (st' := [.int 40, .ref 136]) rfl rfl ?_
                  refine wp_s (i := .iload_n 1) (n := 1) (pc' := 70) (st' := [.int 0, .int 40, .ref 136]) rfl rfl ?_
                  refine wp_s (i := .imul) (n := 1) (pc' := 71) (st' := [.int 0, .ref 136]) rfl rfl ?_
                  refine wp_s (i := .iload 4) (n := 2) (pc' := 73) (st' := [.int 0, .int 0, .ref 136]) rfl rfl ?_
                  refine wp_s (i := .iadd) (n := 1) (pc' := 74) (st' := [.int 0, .ref 136]) rfl rfl ?_
                  refine wp_s (i := .iconst 0) (n := 1) (pc' := 75) (st' := [.int 0, .int 0, .ref 136]) rfl rfl ?_
                  refine wp_is (l' := (List.replicate 160 0)) (pc' := 76) rfl (mm_sn rfl (mm_sn rfl (mm_sn rfl hb_136))) rfl rfl (mm_sf (mm_sn rfl (mm_sn rfl (mm_sn rfl hb_136)))) rfl ?_
                  refine wp_s (i := .iinc 4 1) (n := 3) (pc' := 79) (ls' := [some (.ref 114), some (.int 0), some (.int w), some (.int u), some (.int 1)]) (st' := []) rfl rfl ?_
                  refine wp_s (i := .goto (-23)) (n := 3) (pc' := 56) (st' := []) rfl rfl ?_
                  refine wp_s (i := .iload 4) (n := 2) (pc' := 58) (st' := [.int 1]) rfl rfl ?_
                  refine wp_s (i := .bipush 40) (n := 2) (pc' := 60) (st' := [.int 40, .int 1]) rfl rfl ?_
                  refine wp_s (i := .if_icmp .ge 22) (n := 3) (pc' := 63) (st' := []) rfl rfl ?_
                  refine wp_s (i := .aload_n 0) (n := 1) (pc' := 64) (st' := [.ref 114]) rfl rfl ?_
                  refine wp_gf (idx := 74) (a := 114) (v := .ref 136) (pc' := 67) rfl rfl (mm_sn rfl (mm_sn rfl (mm_sn rfl hb_114))) rfl rfl ?_
                  refine wp_s (i := .bipush 40) (n := 2) (pc' := 69) (st' := [.int 40, .ref 136]) rfl rfl ?_
                  refine wp_s (i := .iload_n 1) (n := 1) (pc' := 70) (st' := [.int 0, .int 40, .ref 136]) rfl rfl ?_
                  refine wp_s (i := .imul) (n := 1) (pc' := 71) (st' := [.int 0, .ref 136]) rfl rfl ?_
                  refine wp_s (i := .iload 4) (n := 2) (pc' := 73) (st' := [.int 1, .int 0, .ref 136]) rfl rfl ?_
                  refine wp_s (i := .iadd) (n := 1) (pc' := 74) (st' := [.int 1, .ref 136]) rfl rfl ?_
                  refine wp_s (i := .iconst 0) (n := 1) (pc' := 75) (st' := [.int 0, .int 1, .ref 136]) rfl rfl ?_
                  refine wp_is (l' := (List.replicate 160 0)) (pc' := 76) rfl (mm_sn rfl (mm_sn rfl (mm_sn rfl hb_136))) rfl rfl (mm_sf (mm_sn rfl (mm_sn rfl (mm_sn rfl hb_136)))) rfl ?_
                  refine wp_s (i := .iinc 4 1) (n := 3) (pc' := 79) (ls' := [some (.ref 114), some (.int 0), some (.int w), some (.int u), some (.int 2)]) (st' := []) rfl rfl ?_
                  refine wp_s (i := .goto (-23)) (n := 3) (pc' := 56) (st' := []) rfl rfl ?_
                  refine wp_s (i := .iload 4) (n := 2) (pc' := 58) (st' := [.int 2]) rfl rfl ?_
                  refine wp_s (i := .bipush 40) (n := 2) (pc' := 60) (st' := [.int 40, .int 2]) rfl rfl ?_
                  refine wp_s (i := .if_icmp .ge 22) (n := 3) (pc' := 63) (st' := []) rfl rfl ?_
                  refine wp_s (i := .aload_n 0) (n := 1) (pc' := 64) (st' := [.ref 114]) rfl rfl ?_
                  refine wp_gf (idx := 74) (a := 114) (v := .ref 136) (pc' := 67) rfl rfl (mm_sn rfl (mm_sn rfl (mm_sn rfl hb_114))) rfl rfl ?_
                  refine wp_s (i := .bipush 40) (n := 2) (pc' := 69) (st' := [.int 40, .ref 136]) rfl rfl ?_
                  refine wp_s (i := .iload_n 1) (n := 1) (pc' := 70) (st' := [.int 0, .int 40, .ref 136]) rfl rfl ?_
                  refine wp_s (i := .imul) (n := 1) (pc' := 71) (st' := [.int 0, .ref 136]) rfl rfl ?_
                  refine wp_s (i := .iload 4) (n := 2) (pc' := 73) (st' := [.int 2, .int 0, .ref 136]) rfl rfl ?_
                  refine wp_s (i := .iadd) (n := 1) (pc' := 74) (st' := [.int 2, .ref 136]) rfl rfl ?_
                  refine wp_s (i := .iconst 0) (n := 1) (pc' := 75) (st' := [.int 0, .int 2, .ref 136]) rfl rfl ?_
                  refine wp_is (l' := (List.replicate 160 0)) (pc' := 76) rfl (mm_sn rfl (mm_sn rfl (mm_sn rfl hb_136))) rfl rfl (mm_sf (mm_sn rfl (mm_sn rfl (mm_sn rfl hb_136)))) rfl ?_
                  refine wp_s (i := .iinc 4 1) (n := 3) (pc' := 79) (ls' := [some (.ref 114), some (.int 0), some (.int w), some (.int u), some (.int 3)]) (st' := []) rfl rfl ?_
                  refine wp_s (i := .goto (-23)) (n := 3) (pc' := 56) (st' := []) rfl rfl ?_
                  refine wp_s (i := .iload 4) (n := 2) (pc' := 58) (st' := [.int 3]) rfl rfl ?_
                  refine wp_s (i := .bipush 40) (n := 2) (pc' := 60) (st' := [.int 40, .int 3]) rfl rfl ?_
                  refine wp_s (i := .if_icmp .ge 22) (n := 3) (pc' := 63) (st' := []) rfl rfl ?_
                  refine wp_s (i := .aload_n 0) (n := 1) (pc' := 64) (st' := [.ref 114]) rfl rfl ?_
                  refine wp_gf (idx := 74) (a := 114) (v := .ref 136) (pc' := 67) rfl rfl (mm_sn rfl (mm_sn rfl (mm_sn rfl hb_114))) rfl rfl ?_
                  refine wp_s (i := .bipush 40) (n := 2) (pc' := 69) (st' := [.int 40, .ref 136]) rfl rfl ?_
                  refine wp_s (i := .iload_n 1) (n := 1) (pc' := 70) (st' := [.int 0, .int 40, .ref 136]) rfl rfl ?_
                  refine wp_s (i := .imul) (n := 1) (pc' := 71) (st' := [.int 0, .ref 136]) rfl rfl ?_
                  refine wp_s (i := .iload 4) (n := 2) (pc' := 73) (st' := [.int 3, .int 0, .ref 136]) rfl rfl ?_
                  refine wp_s (i := .iadd) (n := 1) (pc' := 74) (st' := [.int 3, .ref 136]) rfl rfl ?_
                  refine wp_s (i := .iconst 0) (n := 1) (pc' := 75) (st' := [.int 0, .int 3, .ref 136]) rfl rfl ?_
                  refine wp_is (l' := (List.replicate 160 0)) (pc' := 76) rfl (mm_sn rfl (mm_sn rfl (mm_sn rfl hb_136))) rfl rfl (mm_sf (mm_sn rfl (mm_sn rfl (mm_sn rfl hb_136)))) rfl ?_
                  refine wp_s (i := .iinc 4 1) (n := 3) (pc' := 79) (ls' := [some (.ref 114), some (.int 0), some (.int w), some (.int u), some (.int 4)]) (st' := []) rfl rfl ?_
                  refine wp_s (i := .goto (-23)) (n := 3) (pc' := 56) (st' := []) rfl rfl ?_
                  refine wp_s (i := .iload 4) (n := 2) (pc' := 58) (st' := [.int 4]) rfl rfl ?_
                  refine wp_s (i := .bipush 40) (n := 2) (pc' := 60) (st' := [.int 40, .int 4]) rfl rfl ?_
                  refine wp_s (i := .if_icmp .ge 22) (n := 3) (pc' := 63) (st' := []) rfl rfl ?_
                  refine wp_s (i := .aload_n 0) (n := 1) (pc' := 64) (st' := [.ref 114]) rfl rfl ?_
                  refine wp_gf (idx := 74) (a := 114) (v := .ref 136) (pc' := 67) rfl rfl (mm_sn rfl (mm_sn rfl (mm_sn rfl hb_114))) rfl rfl ?_
                  refine wp_s (i := .bipush 40) (n := 2) (pc' := 69) (st' := [.int 40, .ref 136]) rfl rfl ?_
                  refine wp_s (i := .iload_n 1) (n := 1) (pc' := 70) (st' := [.int 0, .int 40, .ref 136]) rfl rfl ?_
                  refine wp_s (i := .imul) (n := 1) (pc' := 71) (st' := [.int 0, .ref 136]) rfl rfl ?_
                  refine wp_s (i := .iload 4) (n := 2) (pc' := 73) (st' := [.int 4, .int 0, .ref 136]) rfl rfl ?_
                  refine wp_s (i := .iadd) (n := 1) (pc' := 74) (st' := [.int 4, .ref 136]) rfl rfl ?_
                  refine wp_s (i := .iconst 0) (n := 1) (pc' := 75) (st' := [.int 0, .int 4, .ref 136]) rfl rfl ?_
                  refine wp_is (l' := (List.replicate 160 0)) (pc' := 76) rfl (mm_sn rfl (mm_sn rfl (mm_sn rfl hb_136))) rfl rfl (mm_sf (mm_sn rfl (mm_sn rfl (mm_sn rfl hb_136)))) rfl ?_
                  refine wp_s (i := .iinc 4 1) (n := 3) (pc' := 79) (ls' := [some (.ref 114), some (.int 0), some (.int w), some (.int u), some (.int 5)]) (st' := []) rfl rfl ?_
                  refine wp_s (i := .goto (-23)) (n := 3) (pc' := 56) (st' := []) rfl rfl ?_
                  refine wp_s (i := .iload 4) (n := 2) (pc' := 58) (st' := [.int 5]) rfl rfl ?_
                  refine wp_s (i := .bipush 40) (n := 2) (pc' := 60) (st' := [.int 40, .int 5]) rfl rfl ?_
                  refine wp_s (i := .if_icmp .ge 22) (n := 3) (pc' := 63) (st' := []) rfl rfl ?_
                  refine wp_s (i := .aload_n 0) (n := 1) (pc' := 64) (st' := [.ref 114]) rfl rfl ?_
                  refine wp_gf (idx := 74) (a := 114) (v := .ref 136) (pc' := 67) rfl rfl (mm_sn rfl (mm_sn rfl (mm_sn rfl hb_114))) rfl rfl ?_
                  refine wp_s (i := .bipush 40) (n := 2) (pc' := 69) (st' := [.int 40, .ref 136]) rfl rfl ?_
                  refine wp_s (i := .iload_n 1) (n := 1) (pc' := 70) (st' := [.int 0, .int 40, .ref 136]) rfl rfl ?_
                  refine wp_s (i := .imul) (n := 1) (pc' := 71) (st' := [.int 0, .ref 136]) rfl rfl ?_
                  refine wp_s (i := .iload 4) (n := 2) (pc' := 73) (st' := [.int 5, .int 0, .ref 136]) rfl rfl ?_
                  refine wp_s (i := .iadd) (n := 1) (pc' := 74) (st' := [.int 5, .ref 136]) rfl rfl ?_
                  refine wp_s (i := .iconst 0) (n := 1) (pc' := 75) (st' := [.int 0, .int 5, .ref 136]) rfl rfl ?_
                  refine wp_is (l' := (List.replicate 160 0)) (pc' := 76) rfl (mm_sn rfl (mm_sn rfl (mm_sn rfl hb_136))) rfl rfl (mm_sf (mm_sn rfl (mm_sn rfl (mm_sn rfl hb_136)))) rfl ?_
                  refine wp_s (i := .iinc 4 1) (n := 3) (pc' := 79) (ls' := [some (.ref 114), some (.int 0), some (.int w), some (.int u), some (.int 6)]) (st' := []) rfl rfl ?_
                  refine wp_s (i := .goto (-23)) (n := 3) (pc' := 56) (st' := []) rfl rfl ?_
                  refine wp_s (i := .iload 4) (n := 2) (pc' := 58) (st' := [.int 6]) rfl rfl ?_
                  refine wp_s (i := .bipush 40) (n := 2) (pc' := 60) (st' := [.int 40, .int 6]) rfl rfl ?_
                  refine wp_s (i := .if_icmp .ge 22) (n := 3) (pc' := 63) (st' := []) rfl rfl ?_
                  refine wp_s (i := .aload_n 0) (n := 1) (pc' := 64) (st' := [.ref 114]) rfl rfl ?_
                  refine wp_gf (idx := 74) (a := 114) (v := .ref 136) (pc' := 67) rfl rfl (mm_sn rfl (mm_sn rfl (mm_sn rfl hb_114))) rfl rfl ?_
                  refine wp_s (i := .bipush 40) (n := 2) (pc' := 69) (st' := [.int 40, .ref 136]) rfl rfl ?_
                  refine wp_s (i := .iload_n 1) (n := 1) (pc' := 70) (st' := [.int 0, .int 40, .ref 136]) rfl rfl ?_
                  refine wp_s (i := .imul) (n := 1) (pc' := 71) (st' := [.int 0, .ref 136]) rfl rfl ?_
                  refine wp_s (i := .iload 4) (n := 2) (pc' := 73) (st' := [.int 6, .int 0, .ref 136]) rfl rfl ?_
                  refine wp_s (i := .iadd) (n := 1) (pc' := 74) (st' := [.int 6, .ref 136]) rfl rfl ?_
                  refine wp_s (i := .iconst 0) (n := 1) (pc' := 75) (st' := [.int 0, .int 6, .ref 136]) rfl rfl ?_
                  refine wp_is (l' := (List.replicate 160 0)) (pc' := 76) rfl (mm_sn rfl (mm_sn rfl (mm_sn rfl hb_136))) rfl rfl (mm_sf (mm_sn rfl (mm_sn rfl (mm_sn rfl hb_136)))) rfl ?_
                  refine wp_s (i := .iinc 4 1) (n := 3) (pc' := 79) (ls' := [some (.ref 114), some (.int 0), some (.int w), some (.int u), some (.int 7)]) (st' := []) rfl rfl ?_
                  refine wp_s (i := .goto (-23)) (n := 3) (pc' := 56) (st' := []) rfl rfl ?_
                  refine wp_s (i := .iload 4) (n := 2) (pc' := 58) (st' := [.int 7]) rfl rfl ?_
                  refine wp_s (i := .bipush 40) (n := 2) (pc' := 60) (st' := [.int 40, .int 7]) rfl rfl ?_
                  refine wp_s (i := .if_icmp .ge 22) (n := 3) (pc' := 63) (st' := []) rfl rfl ?_
                  refine wp_s (i := .aload_n 0) (n := 1) (pc' := 64) (st' := [.ref 114]) rfl rfl ?_
                  refine wp_gf (idx := 74) (a := 114) (v := .ref 136) (pc' := 67) rfl rfl (mm_sn rfl (mm_sn rfl (mm_sn rfl hb_114))) rfl rfl ?_
                  refine wp_s (i := .bipush 40) (n := 2) (pc' := 69) (st' := [.int 40, .ref 136]) rfl rfl ?_
                  refine wp_s (i := .iload_n 1) (n := 1) (pc' := 70) (st' := [.int 0, .int 40, .ref 136]) rfl rfl ?_
                  refine wp_s (i := .imul) (n := 1) (pc' := 71) (st' := [.int 0, .ref 136]) rfl rfl ?_
                  refine wp_s (i := .iload 4) (n := 2) (pc' := 73) (st' := [.int 7, .int 0, .ref 136]) rfl rfl ?_
                  refine wp_s (i := .iadd) (n := 1) (pc' := 74) (st' := [.int 7, .ref 136]) rfl rfl ?_
                  refine wp_s (i := .iconst 0) (n := 1) (pc' := 75) (st' := [.int 0, .int 7, .ref 136]) rfl rfl ?_
                  refine wp_is (l' := (List.replicate 160 0)) (pc' := 76) rfl (mm_sn rfl (mm_sn rfl (mm_sn rfl hb_136))) rfl rfl (mm_sf (mm_sn rfl (mm_sn rfl (mm_sn rfl hb_136)))) rfl ?_
                  refine wp_s (i := .iinc 4 1) (n := 3) (pc' := 79) (ls' := [some (.ref 114), some (.int 0), some (.int w), some (.int u), some (.int 8)]) (st' := []) rfl rfl ?_
                  refine wp_s (i := .goto (-23)) (n := 3) (pc' := 56) (st' := []) rfl rfl ?_
                  refine wp_s (i := .iload 4) (n := 2) (pc' := 58) (st' := [.int 8]) rfl rfl ?_
                  refine wp_s (i := .bipush 40) (n := 2) (pc' := 60) (st' := [.int 40, .int 8]) rfl rfl ?_
                  refine wp_s (i := .if_icmp .ge 22) (n := 3) (pc' := 63) (st' := []) rfl rfl ?_
                  refine wp_s (i := .aload_n 0) (n := 1) (pc' := 64) (st' := [.ref 114]) rfl rfl ?_
                  refine wp_gf (idx := 74) (a := 114) (v := .ref 136) (pc' := 67) rfl rfl (mm_sn rfl (mm_sn rfl (mm_sn rfl hb_114))) rfl rfl ?_
                  refine wp_s (i := .bipush 40) (n := 2) (pc' := 69) (st' := [.int 40, .ref 136]) rfl rfl ?_
                  refine wp_s (i := .iload_n 1) (n := 1) (pc' := 70) (st' := [.int 0, .int 40, .ref 136]) rfl rfl ?_
                  refine wp_s (i := .imul) (n := 1) (pc' := 71) (st' := [.int 0, .ref 136]) rfl rfl ?_
                  refine wp_s (i := .iload 4) (n := 2) (pc' := 73) (st' := [.int 8, .int 0, .ref 136]) rfl rfl ?_
                  refine wp_s (i := .iadd) (n := 1) (pc' := 74) (st' := [.int 8, .ref 136]) rfl rfl ?_
                  refine wp_s (i := .iconst 0) (n := 1) (pc' := 75) (st' := [.int 0, .int 8, .ref 136]) rfl rfl ?_
                  refine wp_is (l' := (List.replicate 160 0)) (pc' := 76) rfl (mm_sn rfl (mm_sn rfl (mm_sn rfl hb_136))) rfl rfl (mm_sf (mm_sn rfl (mm_sn rfl (mm_sn rfl hb_136)))) rfl ?_
                  refine wp_s (i := .iinc 4 1) (n := 3) (pc' := 79) (ls' := [some (.ref 114), some (.int 0), some (.int w), some (.int u), some (.int 9)]) (st' := []) rfl rfl ?_
                  refine wp_s (i := .goto (-23)) (n := 3) (pc' := 56) (st' := []) rfl rfl ?_
                  refine wp_s (i := .iload 4) (n := 2) (pc' := 58) (st' := [.int 9]) rfl rfl ?_
                  refine wp_s (i := .bipush 40) (n := 2) (pc' := 60) (st' := [.int 40, .int 9]) rfl rfl ?_
                  refine wp_s (i := .if_icmp .ge 22) (n := 3) (pc' := 63) (st' := []) rfl rfl ?_
                  refine wp_s (i := .aload_n 0) (n := 1) (pc' := 64) (st' := [.ref 114]) rfl rfl ?_
                  refine wp_gf (idx := 74) (a := 114) (v := .ref 136) (pc' := 67) rfl rfl (mm_sn rfl (mm_sn rfl (mm_sn rfl hb_114))) rfl rfl ?_
                  refine wp_s (i := .bipush 40) (n := 2) (pc' := 69) (st' := [.int 40, .ref 136]) rfl rfl ?_
                  refine wp_s (i := .iload_n 1) (n := 1) (pc' := 70) (st' := [.int 0, .int 40, .ref 136]) rfl rfl ?_
                  refine wp_s (i := .imul) (n := 1) (pc' := 71) (st' := [.int 0, .ref 136]) rfl rfl ?_
                  refine wp_s (i := .iload 4) (n := 2) (pc' := 73) (st' := [.int 9, .int 0, .ref 136]) rfl rfl ?_
                  refine wp_s (i := .iadd) (n := 1) (pc' := 74) (st' := [.int 9, .ref 136]) rfl rfl ?_
                  refine wp_s (i := .iconst 0) (n := 1) (pc' := 75) (st' := [.int 0, .int 9, .ref 136]) rfl rfl ?_
                  refine wp_is (l' := (List.replicate 160 0)) (pc' := 76) rfl (mm_sn rfl (mm_sn rfl (mm_sn rfl hb_136))) rfl rfl (mm_sf (mm_sn rfl (mm_sn rfl (mm_sn rfl hb_136)))) rfl ?_
                  refine wp_s (i := .iinc 4 1) (n := 3) (pc' := 79) (ls' := [some (.ref 114), some (.int 0), some (.int w), some (.int u), some (.int 10)]) (st' := []) rfl rfl ?_
                  refine wp_s (i := .goto (-23)) (n := 3) (pc' := 56) (st' := []) rfl rfl ?_
                  refine wp_s (i := .iload 4) (n := 2) (pc' := 58) (st' := [.int 10]) rfl rfl ?_
                  refine wp_s (i := .bipush 40) (n := 2) (pc' := 60) (st' := [.int 40, .int 10]) rfl rfl ?_
                  refine wp_s (i := .if_icmp .ge 22) (n := 3) (pc' := 63) (st' := []) rfl rfl ?_
                  refine wp_s (i := .aload_n 0) (n := 1) (pc' := 64) (st' := [.ref 114]) rfl rfl ?_
                  refine wp_gf (idx := 74) (a := 114) (v := .ref 136) (pc' := 67) rfl rfl (mm_sn rfl (mm_sn rfl (mm_sn rfl hb_114))) rfl rfl ?_
                  refine wp_s (i := .bipush 40) (n := 2) (pc' := 69) (st' := [.int 40, .ref 136]) rfl rfl ?_
                  refine wp_s (i := .iload_n 1) (n := 1) (pc' := 70) (st' := [.int 0, .int 40, .ref 136]) rfl rfl ?_
                  refine wp_s (i := .imul) (n := 1) (pc' := 71) (st' := [.int 0, .ref 136]) rfl rfl ?_
                  refine wp_s (i := .iload 4) (n := 2) (pc' := 73) (st' := [.int 10, .int 0, .ref 136]) rfl rfl ?_
                  refine wp_s (i := .iadd) (n := 1) (pc' := 74) (st' := [.int 10, .ref 136]) rfl rfl ?_
                  refine wp_s (i := .iconst 0) (n := 1) (pc' := 75) (st' := [.int 0, .int 10, .ref 136]) rfl rfl ?_
                  refine wp_is (l' := (List.replicate 160 0)) (pc' := 76) rfl (mm_sn rfl (mm_sn rfl (mm_sn rfl hb_136))) rfl rfl (mm_sf (mm_sn rfl (mm_sn rfl (mm_sn rfl hb_136)))) rfl ?_
                  refine wp_s (i := .iinc 4 1) (n := 3) (pc' := 79) (ls' := [some (.ref 114), some (.int 0), some (.int w), some (.int u), some (.int 11)]) (st' := []) rfl rfl ?_
                  refine wp_s (i := .goto (-23)) (n := 3) (pc' := 56) (st' := []) rfl rfl ?_
                  refine wp_s (i := .iload 4) (n := 2) (pc' := 58) (st' := [.int 11]) rfl rfl ?_
                  refine wp_s (i := .bipush 40) (n := 2) (pc' := 60) (st' := [.int 40, .int 11]) rfl rfl ?_
                  refine wp_s (i := .if_icmp .ge 22) (n := 3) (pc' := 63) (st' := []) rfl rfl ?_
                  refine wp_s (i := .aload_n 0) (n := 1) (pc' := 64) (st' := [.ref 114]) rfl rfl ?_
                  refine wp_gf (idx := 74) (a := 114) (v := .ref 136) (pc' := 67) rfl rfl (mm_sn rfl (mm_sn rfl (mm_sn rfl hb_114))) rfl rfl ?_
                  refine wp_s (i := .bipush 40) (n := 2) (pc' := 69) (st' := [.int 40, .ref 136]) rfl rfl ?_
                  refine wp_s (i := .iload_n 1) (n := 1) (pc' := 70) (st' := [.int 0, .int 40, .ref 136]) rfl rfl ?_
                  refine wp_s (i := .imul) (n := 1) (pc' := 71) (st' := [.int 0, .ref 136]) rfl rfl ?_
                  refine wp_s (i := .iload 4) (n := 2) (pc' := 73) (st' := [.int 11, .int 0, .ref 136]) rfl rfl ?_
                  refine wp_s (i := .iadd) (n := 1) (pc' := 74) (st' := [.int 11, .ref 136]) rfl rfl ?_
                  refine wp_s (i := .iconst 0) (n := 1) (pc' := 75) (st' := [.int 0, .int 11, .ref 136]) rfl rfl ?_
                  refine wp_is (l' := (List.replicate 160 0)) (pc' := 76) rfl (mm_sn rfl (mm_sn rfl (mm_sn rfl hb_136))) rfl rfl (mm_sf (mm_sn rfl (mm_sn rfl (mm_sn rfl hb_136)))) rfl ?_
                  refine wp_s (i := .iinc 4 1) (n := 3) (pc' := 79) (ls' := [some (.ref 114), some (.int 0), some (.int w), some (.int u), some (.int 12)]) (st' := []) rfl rfl ?_
                  refine wp_s (i := .goto (-23)) (n := 3) (pc' := 56) (st' := []) rfl rfl ?_
                  refine wp_s (i := .iload 4) (n := 2) (pc' := 58) (st' := [.int 12]) rfl rfl ?_
                  refine wp_s (i := .bipush 40) (n := 2) (pc' := 60) (st' := [.int 40, .int 12]) rfl rfl ?_
                  refine wp_s (i := .if_icmp .ge 22) (n := 3) (pc' := 63) (st' := []) rfl rfl ?_
                  refine wp_s (i := .aload_n 0) (n := 1) (pc' := 64) (st' := [.ref 114]) rfl rfl ?_
                  refine wp_gf (idx := 74) (a := 114) (v := .ref 136) (pc' := 67) rfl rfl (mm_sn rfl (mm_sn rfl (mm_sn rfl hb_114))) rfl rfl ?_
                  refine wp_s (i := .bipush 40) (n := 2) (pc' := 69) (st' := [.int 40, .ref 136]) rfl rfl ?_
                  refine wp_s (i := .iload_n 1) (n := 1) (pc' := 70) (st' := [.int 0, .int 40, .ref 136]) rfl rfl ?_
                  refine wp_s (i := .imul) (n := 1) (pc' := 71) (st' := [.int 0, .ref 136]) rfl rfl ?_
                  refine wp_s (i := .iload 4) (n := 2) (pc' := 73) (st' := [.int 12, .int 0, .ref 136]) rfl rfl ?_
                  refine wp_s (i := .iadd) (n := 1) (pc' := 74) (st' := [.int 12, .ref 136]) rfl rfl ?_
                  refine wp_s (i := .iconst 0) (n := 1) (pc' := 75) (st' := [.int 0, .int 12, .ref 136]) rfl rfl ?_
                  refine wp_is (l' := (List.replicate 160 0)) (pc' := 76) rfl (mm_sn rfl (mm_sn rfl (mm_sn rfl hb_136))) rfl rfl (mm_sf (mm_sn rfl (mm_sn rfl (mm_sn rfl hb_136)))) rfl ?_
                  refine wp_s (i := .iinc 4 1) (n := 3) (pc' := 79) (ls' := [some (.ref 114), some (.int 0), some (.int w), some (.int u), some (.int 13)]) (st' := []) rfl rfl ?_
                  refine wp_s (i := .goto (-23)) (n := 3) (pc' := 56) (st' := []) rfl rfl ?_
                  refine wp_s (i := .iload 4) (n := 2) (pc' := 58) (st' := [.int 13]) rfl rfl ?_
                  refine wp_s (i := .bipush 40) (n := 2) (pc' := 60) (st' := [.int 40, .int 13]) rfl rfl ?_
                  refine wp_s (i := .if_icmp .ge 22) (n := 3) (pc' := 63) (st' := []) rfl rfl ?_
                  refine wp_s (i := .aload_n 0) (n := 1) (pc' := 64) (st' := [.ref 114]) rfl rfl ?_
                  refine wp_gf (idx := 74) (a := 114) (v := .ref 136) (pc' := 67) rfl rfl (mm_sn rfl (mm_sn rfl (mm_sn rfl hb_114))) rfl rfl ?_
                  refine wp_s (i := .bipush 40) (n := 2) (pc' := 69) (st' := [.int 40, .ref 136]) rfl rfl ?_
                  refine wp_s (i := .iload_n 1) (n := 1) (pc' := 70) (st' := [.int 0, .int 40, .ref 136]) rfl rfl ?_
                  refine wp_s (i := .imul) (n := 1) (pc' := 71) (st' := [.int 0, .ref 136]) rfl rfl ?_
                  refine wp_s (i := .iload 4) (n := 2) (pc' := 73) (st' := [.int 13, .int 0, .ref 136]) rfl rfl ?_
                  refine wp_s (i := .iadd) (n := 1) (pc' := 74) (st' := [.int 13, .ref 136]) rfl rfl ?_
                  refine wp_s (i := .iconst 0) (n := 1) (pc' := 75) (st' := [.int 0, .int 13, .ref 136]) rfl rfl ?_
                  refine wp_is (l' := (List.replicate 160 0)) (pc' := 76) rfl (mm_sn rfl (mm_sn rfl (mm_sn rfl hb_136))) rfl rfl (mm_sf (mm_sn rfl (mm_sn rfl (mm_sn rfl hb_136)))) rfl ?_
                  refine wp_s (i := .iinc 4 1) (n := 3) (pc' := 79) (ls' := [some (.ref 114), some (.int 0), some (.int w), some (.int u), some (.int 14)]) (st' := []) rfl rfl ?_
                  refine wp_s (i := .goto (-23)) (n := 3) (pc' := 56) (st' := []) rfl rfl ?_
                  refine wp_s (i := .iload 4) (n := 2) (pc' := 58) (st' := [.int 14]) rfl rfl ?_
                  refine wp_s (i := .bipush 40) (n := 2) (pc' := 60) (st' := [.int 40, .int 14]) rfl rfl ?_
                  refine wp_s (i := .if_icmp .ge 22) (n := 3) (pc' := 63) (st' := []) rfl rfl ?_
                  refine wp_s (i := .aload_n 0) (n := 1) (pc' := 64) (st' := [.ref 114]) rfl rfl ?_
                  refine wp_gf (idx := 74) (a := 114) (v := .ref 136) (pc' := 67) rfl rfl (mm_sn rfl (mm_sn rfl (mm_sn rfl hb_114))) rfl rfl ?_
                  refine wp_s (i := .bipush 40) (n := 2) (pc' := 69) (st' := [.int 40, .ref 136]) rfl rfl ?_
                  refine wp_s (i := .iload_n 1) (n := 1) (pc' := 70) (st' := [.int 0, .int 40, .ref 136]) rfl rfl ?_
                  refine wp_s (i := .imul) (n := 1) (pc' := 71) (st' := [.int 0, .ref 136]) rfl rfl ?_
                  refine wp_s (i := .iload 4) (n := 2) (pc' := 73) (st' := [.int 14, .int 0, .ref 136]) rfl rfl ?_
                  refine wp_s (i := .iadd) (n := 1) (pc' := 74) (st' := [.int 14, .ref 136]) rfl rfl ?_
                  refine wp_s (i := .iconst 0) (n := 1) (pc' := 75) (st' := [.int 0, .int 14, .ref 136]) rfl rfl ?_
                  refine wp_is (l' := (List.replicate 160 0)) (pc' := 76) rfl (mm_sn rfl (mm_sn rfl (mm_sn rfl hb_136))) rfl rfl (mm_sf (mm_sn rfl (mm_sn rfl (mm_sn rfl hb_136)))) rfl ?_
                  refine wp_s (i := .iinc 4 1) (n := 3) (pc' := 79) (ls' := [some (.ref 114), some (.int 0), some (.int w), some (.int u), some (.int 15)]) (st' := []) rfl rfl ?_
                  refine wp_s (i := .goto (-23)) (n := 3) (pc' := 56) (st' := []) rfl rfl ?_
                  refine wp_s (i := .iload 4) (n := 2) (pc' := 58) (st' := [.int 15]) rfl rfl ?_
                  refine wp_s (i := .bipush 40) (n := 2) (pc' := 60) (st' := [.int 40, .int 15]) rfl rfl ?_
                  refine wp_s (i := .if_icmp .ge 22) (n := 3) (pc' := 63) (st' := []) rfl rfl ?_
                  refine wp_s (i := .aload_n 0) (n := 1) (pc' := 64) (st' := [.ref 114]) rfl rfl ?_
                  refine wp_gf (idx := 74) (a := 114) (v := .ref 136) (pc' := 67) rfl rfl (mm_sn rfl (mm_sn rfl (mm_sn rfl hb_114))) rfl rfl ?_
                  refine wp_s (i := .bipush 40) (n := 2) (pc' := 69) (st' := [.int 40, .ref 136]) rfl rfl ?_
                  refine wp_s (i := .iload_n 1) (n := 1) (pc' := 70) (st' := [.int 0, .int 40, .ref 136]) rfl rfl ?_
                  refine wp_s (i := .imul) (n := 1) (pc' := 71) (st' := [.int 0, .ref 136]) rfl rfl ?_
                  refine wp_s (i := .iload 4) (n := 2) (pc' := 73) (st' := [.int 15, .int 0, .ref 136]) rfl rfl ?_
                  refine wp_s (i := .iadd) (n := 1) (pc' := 74) (st' := [.int 15, .ref 136]) rfl rfl ?_
                  refine wp_s (i := .iconst 0) (n := 1) (pc' := 75) (st' := [.int 0, .int 15, .ref 136]) rfl rfl ?_
                  refine wp_is (l' := (List.replicate 160 0)) (pc' := 76) rfl (mm_sn rfl (mm_sn rfl (mm_sn rfl hb_136))) rfl rfl (mm_sf (mm_sn rfl (mm_sn rfl (mm_sn rfl hb_136)))) rfl ?_
                  refine wp_s (i := .iinc 4 1) (n := 3) (pc' := 79) (ls' := [some (.ref 114), some (.int 0), some (.int w), some (.int u), some (.int 16)]) (st' := []) rfl rfl ?_
                  refine wp_s (i := .goto (-23)) (n := 3) (pc' := 56) (st' := []) rfl rfl ?_
                  refine wp_s (i := .iload 4) (n := 2) (pc' := 58) (st' := [.int 16]) rfl rfl ?_
                  refine wp_s (i := .bipush 40) (n := 2) (pc' := 60) (st' := [.int 40, .int 16]) rfl rfl ?_
                  refine wp_s (i := .if_icmp .ge 22) (n := 3) (pc' := 63) (st' := []) rfl rfl ?_
                  refine wp_s (i := .aload_n 0) (n := 1) (pc' := 64) (st' := [.ref 114]) rfl rfl ?_
                  refine wp_gf (idx := 74) (a := 114) (v := .ref 136) (pc' := 67) rfl rfl (mm_sn rfl (mm_sn rfl (mm_sn rfl hb_114))) rfl rfl ?_
                  refine wp_s (i := .bipush 40) (n := 2) (pc' := 69) (st' := [.int 40, .ref 136]) rfl rfl ?_
                  refine wp_s (i := .iload_n 1) (n := 1) (pc' := 70) (st' := [.int 0, .int 40, .ref 136]) rfl rfl ?_
                  refine wp_s (i := .imul) (n := 1) (pc' := 71) (st' := [.int 0, .ref 136]) rfl rfl ?_
                  refine wp_s (i := .iload 4) (n := 2) (pc' := 73) (st' := [.int 16, .int 0, .ref 136]) rfl rfl ?_
                  refine wp_s (i := .iadd) (n := 1) (pc' := 74) (st' := [.int 16, .ref 136]) rfl rfl ?_
                  refine wp_s (i := .iconst 0) (n := 1) (pc' := 75) (st' := [.int 0, .int 16, .ref 136]) rfl rfl ?_
                  refine wp_is (l' := (List.replicate 160 0)) (pc' := 76) rfl (mm_sn rfl (mm_sn rfl (mm_sn rfl hb_136))) rfl rfl (mm_sf (mm_sn rfl (mm_sn rfl (mm_sn rfl hb_136)))) rfl ?_
                  refine wp_s (i := .iinc 4 1) (n := 3) (pc' := 79) (ls' := [some (.ref 114), some (.int 0), some (.int w), some (.int u), some (.int 17)]) (st' := []) rfl rfl ?_
                  refine wp_s (i := .goto (-23)) (n := 3) (pc' := 56) (st' := []) rfl rfl ?_
                  refine wp_s (i := .iload 4) (n := 2) (pc' := 58) (st' := [.int 17]) rfl rfl ?_
                  refine wp_s (i := .bipush 40) (n := 2) (pc' := 60) (st' := [.int 40, .int 17]) rfl rfl ?_
                  refine wp_s (i := .if_icmp .ge 22) (n := 3) (pc' := 63) (st' := []) rfl rfl ?_
                  refine wp_s (i := .aload_n 0) (n := 1) (pc' := 64) (st' := [.ref 114]) rfl rfl ?_
                  refine wp_gf (idx := 74) (a := 114) (v := .ref 136) (pc' := 67) rfl rfl (mm_sn rfl (mm_sn rfl (mm_sn rfl hb_114))) rfl rfl ?_
                  refine wp_s (i := .bipush 40) (n := 2) (pc' := 69) (st' := [.int 40, .ref 136]) rfl rfl ?_
                  refine wp_s (i := .iload_n 1) (n := 1) (pc' := 70) (st' := [.int 0, .int 40, .ref 136]) rfl rfl ?_
                  refine wp_s (i := .imul) (n := 1) (pc' := 71) (st' := [.int 0, .ref 136]) rfl rfl ?_
                  refine wp_s (i := .iload 4) (n := 2) (pc' := 73) (st' := [.int 17, .int 0, .ref 136]) rfl rfl ?_
                  refine wp_s (i := .iadd) (n := 1) (pc' := 74) (st' := [.int 17, .ref 136]) rfl rfl ?_
                  refine wp_s (i := .iconst 0) (n := 1) (pc' := 75) (st' := [.int 0, .int 17, .ref 136]) rfl rfl ?_
                  refine wp_is (l' := (List.replicate 160 0)) (pc' := 76) rfl (mm_sn rfl (mm_sn rfl (mm_sn rfl hb_136))) rfl rfl (mm_sf (mm_sn rfl (mm_sn rfl (mm_sn rfl hb_136)))) rfl ?_
                  refine wp_s (i := .iinc 4 1) (n := 3) (pc' := 79) (ls' := [some (.ref 114), some (.int 0), some (.int w), some (.int u), some (.int 18)]) (st' := []) rfl rfl ?_
                  refine wp_s (i := .goto (-23)) (n := 3) (pc' := 56) (st' := []) rfl rfl ?_
                  refine wp_s (i := .iload 4) (n := 2) (pc' := 58) (st' := [.int 18]) rfl rfl ?_
                  refine wp_s (i := .bipush 40) (n := 2) (pc' := 60) (st' := [.int 40, .int 18]) rfl rfl ?_
                  refine wp_s (i := .if_icmp .ge 22) (n := 3) (pc' := 63) (st' := []) rfl rfl ?_
                  refine wp_s (i := .aload_n 0) (n := 1) (pc' := 64) (st' := [.ref 114]) rfl rfl ?_
                  refine wp_gf (idx := 74) (a := 114) (v := .ref 136) (pc' := 67) rfl rfl (mm_sn rfl (mm_sn rfl (mm_sn rfl hb_114))) rfl rfl ?_
                  refine wp_s (i := .bipush 40) (n := 2) (pc' := 69) (st' := [.int 40, .ref 136]) rfl rfl ?_
                  refine wp_s (i := .iload_n 1) (n := 1) (pc' := 70) (st' := [.int 0, .int 40, .ref 136]) rfl rfl ?_
                  refine wp_s (i := .imul) (n := 1) (pc' := 71) (st' := [.int 0, .ref 136]) rfl rfl ?_
                  refine wp_s (i := .iload 4) (n := 2) (pc' := 73) (st' := [.int 18, .int 0, .ref 136]) rfl rfl ?_
                  refine wp_s (i := .iadd) (n := 1) (pc' := 74) (st' := [.int 18, .ref 136]) rfl rfl ?_
                  refine wp_s (i := .iconst 0) (n := 1) (pc' := 75) (st' := [.int 0, .int 18, .ref 136]) rfl rfl ?_
                  refine wp_is (l' := (List.replicate 160 0)) (pc' := 76) rfl (mm_sn rfl (mm_sn rfl (mm_sn rfl hb_136))) rfl rfl (mm_sf (mm_sn rfl (mm_sn rfl (mm_sn rfl hb_136)))) rfl ?_
                  refine wp_s (i := .iinc 4 1) (n := 3) (pc' := 79) (ls' := [some (.ref 114), some (.int 0), some (.int w), some (.int u), some (.int 19)]) (st' := []) rfl rfl ?_
                  refine wp_s (i := .goto (-23)) (n := 3) (pc' := 56) (st' := []) rfl rfl ?_
                  refine wp_s (i := .iload 4) (n := 2) (pc' := 58) (st' := [.int 19]) rfl rfl ?_
                  refine wp_s (i := .bipush 40) (n := 2) (pc' := 60) (st' := [.int 40, .int 19]) rfl rfl ?_
                  refine wp_s (i := .if_icmp .ge 22) (n := 3) (pc' := 63) (st' := []) rfl rfl ?_
                  refine wp_s (i := .aload_n 0) (n := 1) (pc' := 64) (st' := [.ref 114]) rfl rfl ?_
                  refine wp_gf (idx := 74) (a := 114) (v := .ref 136) (pc' := 67) rfl rfl (mm_sn rfl (mm_sn rfl (mm_sn rfl hb_114))) rfl rfl ?_
                  refine wp_s (i := .bipush 40) (n := 2) (pc' := 69) (st' := [.int 40, .ref 136]) rfl rfl ?_
                  refine wp_s (i := .iload_n 1) (n := 1) (pc' := 70) (st' := [.int 0, .int 40, .ref 136]) rfl rfl ?_
                  refine wp_s (i := .imul) (n := 1) (pc' := 71) (st' := [.int 0, .ref 136]) rfl rfl ?_
                  refine wp_s (i := .iload 4) (n := 2) (pc' := 73) (st' := [.int 19, .int 0, .ref 136]) rfl rfl ?_
                  refine wp_s (i := .iadd) (n := 1) (pc' := 74) (st' := [.int 19, .ref 136]) rfl rfl ?_
                  refine wp_s (i := .iconst 0) (n := 1) (pc' := 75) (st' := [.int 0, .int 19, .ref 136]) rfl rfl ?_
                  refine wp_is (l' := (List.replicate 160 0)) (pc' := 76) rfl (mm_sn rfl (mm_sn rfl (mm_sn rfl hb_136))) rfl rfl (mm_sf (mm_sn rfl (mm_sn rfl (mm_sn rfl hb_136)))) rfl ?_
                  refine wp_s (i := .iinc 4 1) (n := 3) (pc' := 79) (ls' := [some (.ref 114), some (.int 0), some (.int w), some (.int u), some (.int 20)]) (st' := []) rfl rfl ?_
                  refine wp_s (i := .goto (-23)) (n := 3) (pc' := 56) (st' := []) rfl rfl ?_
                  refine wp_s (i := .iload 4) (n := 2) (pc' := 58) (st' := [.int 20]) rfl rfl ?_
                  refine wp_s (i := .bipush 40) (n := 2) (pc' := 60) (st' := [.int 40, .int 20]) rfl rfl ?_
                  refine wp_s (i := .if_icmp .ge 22) (n := 3) (pc' := 63) (st' := []) rfl rfl ?_
                  refine wp_s (i := .aload_n 0) (n := 1) (pc' := 64) (st' := [.ref 114]) rfl rfl ?_
                  refine wp_gf (idx := 74) (a := 114) (v := .ref 136) (pc' := 67) rfl rfl (mm_sn rfl (mm_sn rfl (mm_sn rfl hb_114))) rfl rfl ?_
                  refine wp_s (i := .bipush 40) (n := 2) (pc' := 69) (st' := [.int 40, .ref 136]) rfl rfl ?_
                  refine wp_s (i := .iload_n 1) (n := 1) (pc' := 70) (st' := [.int 0, .int 40, .ref 136]) rfl rfl ?_
                  refine wp_s (i := .imul) (n := 1) (pc' := 71) (st' := [.int 0, .ref 136]) rfl rfl ?_
                  refine wp_s (i := .iload 4) (n := 2) (pc' := 73) (st' := [.int 20, .int 0, .ref 136]) rfl rfl ?_
                  refine wp_s (i := .iadd) (n := 1) (pc' := 74) (st' := [.int 20, .ref 136]) rfl rfl ?_
                  refine wp_s (i := .iconst 0) (n := 1) (pc' := 75) (st' := [.int 0, .int 20, .ref 136]) rfl rfl ?_
                  refine wp_is (l' := (List.replicate 160 0)) (pc' := 76) rfl (mm_sn rfl (mm_sn rfl (mm_sn rfl hb_136))) rfl rfl (mm_sf (mm_sn rfl (mm_sn rfl (mm_sn rfl hb_136)))) rfl ?_
                  refine wp_s (i := .iinc 4 1) (n := 3) (pc' := 79) (ls' := [some (.ref 114), some (.int 0), some (.int w), some (.int u), some (.int 21)]) (st' := []) rfl rfl ?_
                  refine wp_s (i := .goto (-23)) (n := 3) (pc' := 56) (st' := []) rfl rfl ?_
                  refine wp_s (i := .iload 4) (n := 2) (pc' := 58) (st' := [.int 21]) rfl rfl ?_
                  refine wp_s (i := .bipush 40) (n := 2) (pc' := 60) (st' := [.int 40, .int 21]) rfl rfl ?_
                  refine wp_s (i := .if_icmp .ge 22) (n := 3) (pc' := 63) (st' := []) rfl rfl ?_
                  refine wp_s (i := .aload_n 0) (n := 1) (pc' := 64) (st' := [.ref 114]) rfl rfl ?_
                  refine wp_gf (idx := 74) (a := 114) (v := .ref 136) (pc' := 67) rfl rfl (mm_sn rfl (mm_sn rfl (mm_sn rfl hb_114))) rfl rfl ?_
                  refine wp_s (i := .bipush 40) (n := 2) (pc' := 69) (st' := [.int 40, .ref 136]) rfl rfl ?_
                  refine wp_s (i := .iload_n 1) (n := 1) (pc' := 70) (st' := [.int 0, .int 40, .ref 136]) rfl rfl ?_
                  refine wp_s (i := .imul) (n := 1) (pc' := 71) (st' := [.int 0, .ref 136]) rfl rfl ?_
                  refine wp_s (i := .iload 4) (n := 2) (pc' := 73) (st' := [.int 21, .int 0, .ref 136]) rfl rfl ?_
                  refine wp_s (i := .iadd) (n := 1) (pc' := 74) (st' := [.int 21, .ref 136]) rfl rfl ?_
                  refine wp_s (i := .iconst 0) (n := 1) (pc' := 75) (st' := [.int 0, .int 21, .ref 136]) rfl rfl ?_
                  refine wp_is (l' := (List.replicate 160 0)) (pc' := 76) rfl (mm_sn rfl (mm_sn rfl (mm_sn rfl hb_136))) rfl rfl (mm_sf (mm_sn rfl (mm_sn rfl (mm_sn rfl hb_136)))) rfl ?_
                  refine wp_s (i := .iinc 4 1) (n := 3) (pc' := 79) (ls' := [some (.ref 114), some (.int 0), some (.int w), some (.int u), some (.int 22)]) (st' := []) rfl rfl ?_
                  refine wp_s (i := .goto (-23)) (n := 3) (pc' := 56) (st' := []) rfl rfl ?_
                  refine wp_s (i := .iload 4) (n := 2) (pc' := 58) (st' := [.int 22]) rfl rfl ?_
                  refine wp_s (i := .bipush 40) (n := 2) (pc' := 60) (st' := [.int 40, .int 22]) rfl rfl ?_
                  refine wp_s (i := .if_icmp .ge 22) (n := 3) (pc' := 63) (st' := []) rfl rfl ?_
                  refine wp_s (i := .aload_n 0) (n := 1) (pc' := 64) (st' := [.ref 114]) rfl rfl ?_
                  refine wp_gf (idx := 74) (a := 114) (v := .ref 136) (pc' := 67) rfl rfl (mm_sn rfl (mm_sn rfl (mm_sn rfl hb_114))) rfl rfl ?_
                  refine wp_s (i := .bipush 40) (n := 2) (pc' := 69) (st' := [.int 40, .ref 136]) rfl rfl ?_
                  refine wp_s (i := .iload_n 1) (n := 1) (pc' := 70) (st' := [.int 0, .int 40, .ref 136]) rfl rfl ?_
                  refine wp_s (i := .imul) (n := 1) (pc' := 71) (st' := [.int 0, .ref 136]) rfl rfl ?_
                  refine wp_s (i := .iload 4) (n := 2) (pc' := 73) (st' := [.int 22, .int 0, .ref 136]) rfl rfl ?_
                  refine wp_s (i := .iadd) (n := 1) (pc' := 74) (st' := [.int 22, .ref 136]) rfl rfl ?_
                  refine wp_s (i := .iconst 0) (n := 1) (pc' := 75) (st' := [.int 0, .int 22, .ref 136]) rfl rfl ?_
                  refine wp_is (l' := (List.replicate 160 0)) (pc' := 76) rfl (mm_sn rfl (mm_sn rfl (mm_sn rfl hb_136))) rfl rfl (mm_sf (mm_sn rfl (mm_sn rfl (mm_sn rfl hb_136)))) rfl ?_
                  refine wp_s (i := .iinc 4 1) (n := 3) (pc' := 79) (ls' := [some (.ref 114), some (.int 0), some (.int w), some (.int u), some (.int 23)]) (st' := []) rfl rfl ?_
                  refine wp_s (i := .goto (-23)) (n := 3) (pc' := 56) (st' := []) rfl rfl ?_
                  refine wp_s (i := .iload 4) (n := 2) (pc' := 58) (st' := [.int 23]) rfl rfl ?_
                  refine wp_s (i := .bipush 40) (n := 2) (pc' := 60) (st' := [.int 40, .int 23]) rfl rfl ?_
                  refine wp_s (i := .if_icmp .ge 22) (n := 3) (pc' := 63) (st' := []) rfl rfl ?_
                  refine wp_s (i := .aload_n 0) (n := 1) (pc' := 64) (st' := [.ref 114]) rfl rfl ?_
                  refine wp_gf (idx := 74) (a := 114) (v := .ref 136) (pc' := 67) rfl rfl (mm_sn rfl (mm_sn rfl (mm_sn rfl hb_114))) rfl rfl ?_
                  refine wp_s (i := .bipush 40) (n := 2) (pc' := 69) (st' := [.int 40, .ref 136]) rfl rfl ?_
                  refine wp_s (i := .iload_n 1) (n := 1) (pc' := 70) (st' := [.int 0, .int 40, .ref 136]) rfl rfl ?_
                  refine wp_s (i := .imul) (n := 1) (pc' := 71) (st' := [.int 0, .ref 136]) rfl rfl ?_
                  refine wp_s (i := .iload 4) (n := 2) (pc' := 73) (st' := [.int 23, .int 0, .ref 136]) rfl rfl ?_
                  refine wp_s (i := .iadd) (n := 1) (pc' := 74) (st' := [.int 23, .ref 136]) rfl rfl ?_
                  refine wp_s (i := .iconst 0) (n := 1) (pc' := 75) (st' := [.int 0, .int 23, .ref 136]) rfl rfl ?_
                  refine wp_is (l' := (List.replicate 160 0)) (pc' := 76) rfl (mm_sn rfl (mm_sn rfl (mm_sn rfl hb_136))) rfl rfl (mm_sf (mm_sn rfl (mm_sn rfl (mm_sn rfl hb_136)))) rfl ?_
                  refine wp_s (i := .iinc 4 1) (n := 3) (pc' := 79) (ls' := [some (.ref 114), some (.int 0), some (.int w), some (.int u), some (.int 24)]) (st' := []) rfl rfl ?_
                  refine wp_s (i := .goto (-23)) (n := 3) (pc' := 56) (st' := []) rfl rfl ?_
                  refine wp_s (i := .iload 4) (n := 2) (pc' := 58) (st' := [.int 24]) rfl rfl ?_
                  refine wp_s (i := .bipush 40) (n := 2) (pc' := 60) (st' := [.int 40, .int 24]) rfl rfl ?_
                  refine wp_s (i := .if_icmp .ge 22) (n := 3) (pc' := 63) (st' := []) rfl rfl ?_
                  refine wp_s (i := .aload_n 0) (n := 1) (pc' := 64) (st' := [.ref 114]) rfl rfl ?_
                  refine wp_gf (idx := 74) (a := 114) (v := .ref 136) (pc' := 67) rfl rfl (mm_sn rfl (mm_sn rfl (mm_sn rfl hb_114))) rfl rfl ?_
                  refine wp_s (i := .bipush 40) (n := 2) (pc' := 69) (st' := [.int 40, .ref 136]) rfl rfl ?_
                  refine wp_s (i := .iload_n 1) (n := 1) (pc' := 70) (st' := [.int 0, .int 40, .ref 136]) rfl rfl ?_
                  refine wp_s (i := .imul) (n := 1) (pc' := 71) (st' := [.int 0, .ref 136]) rfl rfl ?_
                  refine wp_s (i := .iload 4) (n := 2) (pc' := 73) (st' := [.int 24, .int 0, .ref 136]) rfl rfl ?_
                  refine wp_s (i := .iadd) (n := 1) (pc' := 74) (st' := [.int 24, .ref 136]) rfl rfl ?_
                  refine wp_s (i := .iconst 0) (n := 1) (pc' := 75) (st' := [.int 0, .int 24, .ref 136]) rfl rfl ?_
                  refine wp_is (l' := (List.replicate 160 0)) (pc' := 76) rfl (mm_sn rfl (mm_sn rfl (mm_sn rfl hb_136))) rfl rfl (mm_sf (mm_sn rfl (mm_sn rfl (mm_sn rfl hb_136)))) rfl ?_
                  refine wp_s (i := .iinc 4 1) (n := 3) (pc' := 79) (ls' := [some (.ref 114), some (.int 0), some (.int w), some (.int u), some (.int 25)]) (st' := []) rfl rfl ?_
                  refine wp_s (i := .goto (-23)) (n := 3) (pc' := 56) (st' := []) rfl rfl ?_
                  refine wp_s (i := .iload 4) (n := 2) (pc' := 58) (st' := [.int 25]) rfl rfl ?_
                  refine wp_s (i := .bipush 40) (n := 2) (pc' := 60) (st' := [.int 40, .int 25]) rfl rfl ?_
                  refine wp_s (i := .if_icmp .ge 22) (n := 3) (pc' := 63) (st' := []) rfl rfl ?_
                  refine wp_s (i := .aload_n 0) (n := 1) (pc' := 64) (st' := [.ref 114]) rfl rfl ?_
                  refine wp_gf (idx := 74) (a := 114) (v := .ref 136) (pc' := 67) rfl rfl (mm_sn rfl (mm_sn rfl (mm_sn rfl hb_114))) rfl rfl ?_
                  refine wp_s (i := .bipush 40) (n := 2) (pc' := 69) (st' := [.int 40, .ref 136]) rfl rfl ?_
                  refine wp_s (i := .iload_n 1) (n := 1) (pc' := 70) (st' := [.int 0, .int 40, .ref 136]) rfl rfl ?_
                  refine wp_s (i := .imul) (n := 1) (pc' := 71) (st' := [.int 0, .ref 136]) rfl rfl ?_
                  refine wp_s (i := .iload 4) (n := 2) (pc' := 73) (st' := [.int 25, .int 0, .ref 136]) rfl rfl ?_
                  refine wp_s (i := .iadd) (n := 1) (pc' := 74) (st' := [.int 25, .ref 136]) rfl rfl ?_
                  refine wp_s (i := .iconst 0) (n := 1) (pc' := 75) (st' := [.int 0, .int 25, .ref 136]) rfl rfl ?_
                  refine wp_is (l' := (List.replicate 160 0)) (pc' := 76) rfl (mm_sn rfl (mm_sn rfl (mm_sn rfl hb_136))) rfl rfl (mm_sf (mm_sn rfl (mm_sn rfl (mm_sn rfl hb_136)))) rfl ?_
                  refine wp_s (i := .iinc 4 1) (n := 3) (pc' := 79) (ls' := [some (.ref 114), some (.int 0), some (.int w), some (.int u), some (.int 26)]) (st' := []) rfl rfl ?_
                  refine wp_s (i := .goto (-23)) (n := 3) (pc' := 56) (st' := []) rfl rfl ?_
                  refine wp_s (i := .iload 4) (n := 2) (pc' := 58) (st' := [.int 26]) rfl rfl ?_
                  refine wp_s (i := .bipush 40) (n := 2) (pc' := 60) (st' := [.int 40, .int 26]) rfl rfl ?_
                  refine wp_s (i := .if_icmp .ge 22) (n := 3) (pc' := 63) (st' := []) rfl rfl ?_
                  refine wp_s (i := .aload_n 0) (n := 1) (pc' := 64) (st' := [.ref 114]) rfl rfl ?_
                  refine wp_gf (idx := 74) (a := 114) (v := .ref 136) (pc' := 67) rfl rfl (mm_sn rfl (mm_sn rfl (mm_sn rfl hb_114))) rfl rfl ?_
                  refine wp_s (i := .bipush 40) (n := 2) (pc' := 69) (st' := [.int 40, .ref 136]) rfl rfl ?_
                  refine wp_s (i := .iload_n 1) (n := 1) (pc' := 70) (st' := [.int 0, .int 40, .ref 136]) rfl rfl ?_
                  refine wp_s (i := .imul) (n := 1) (pc' := 71) (st' := [.int 0, .ref 136]) rfl rfl ?_
                  refine wp_s (i := .iload 4) (n := 2) (pc' := 73) (st' := [.int 26, .int 0, .ref 136]) rfl rfl ?_
                  refine wp_s (i := .iadd) (n := 1) (pc' := 74) (st' := [.int 26, .ref 136]) rfl rfl ?_
                  refine wp_s (i := .iconst 0) (n := 1) (pc' := 75) (st' := [.int 0, .int 26, .ref 136]) rfl rfl ?_
                  refine wp_is (l' := (List.replicate 160 0)) (pc' := 76) rfl (mm_sn rfl (mm_sn rfl (mm_sn rfl hb_136))) rfl rfl (mm_sf (mm_sn rfl (mm_sn rfl (mm_sn rfl hb_136)))) rfl ?_
                  refine wp_s (i := .iinc 4 1) (n := 3) (pc' := 79) (ls' := [some (.ref 114), some (.int 0), some (.int w), some (.int u), some (.int 27)]) (st' := []) rfl rfl ?_
                  refine wp_s (i := .goto (-23)) (n := 3) (pc' := 56) (st' := []) rfl rfl ?_
                  refine wp_s (i := .iload 4) (n := 2) (pc' := 58) (st' := [.int 27]) rfl rfl ?_
                  refine wp_s (i := .bipush 40) (n := 2) (pc' := 60) (st' := [.int 40, .int 27]) rfl rfl ?_
                  refine wp_s (i := .if_icmp .ge 22) (n := 3) (pc' := 63) (st' := []) rfl rfl ?_
                  refine wp_s (i := .aload_n 0) (n := 1) (pc' := 64) (st' := [.ref 114]) rfl rfl ?_
                  refine wp_gf (idx := 74) (a := 114) (v := .ref 136) (pc' := 67) rfl rfl (mm_sn rfl (mm_sn rfl (mm_sn rfl hb_114))) rfl rfl ?_
                  refine wp_s (i := .bipush 40) (n := 2) (pc' := 69) (st' := [.int 40, .ref 136]) rfl rfl ?_
                  refine wp_s (i := .iload_n 1) (n := 1) (pc' := 70) (st' := [.int 0, .int 40, .ref 136]) rfl rfl ?_
                  refine wp_s (i := .imul) (n := 1) (pc' := 71) (st' := [.int 0, .ref 136]) rfl rfl ?_
                  refine wp_s (i := .iload 4) (n := 2) (pc' := 73) (st' := [.int 27, .int 0, .ref 136]) rfl rfl ?_
                  refine wp_s (i := .iadd) (n := 1) (pc' := 74) (st' := [.int 27, .ref 136]) rfl rfl ?_
                  refine wp_s (i := .iconst 0) (n := 1) (pc' := 75) (st' := [.int 0, .int 27, .ref 136]) rfl rfl ?_
                  refine wp_is (l' := (List.replicate 160 0)) (pc' := 76) rfl (mm_sn rfl (mm_sn rfl (mm_sn rfl hb_136))) rfl rfl (mm_sf (mm_sn rfl (mm_sn rfl (mm_sn rfl hb_136)))) rfl ?_
                  refine wp_s (i := .iinc 4 1) (n := 3) (pc' := 79) (ls' := [some (.ref 114), some (.int 0), some (.int w), some (.int u), some (.int 28)]) (st' := []) rfl rfl ?_
                  refine wp_s (i := .goto (-23)) (n := 3) (pc' := 56) (st' := []) rfl rfl ?_
                  refine wp_s (i := .iload 4) (n := 2) (pc' := 58) (st' := [.int 28]) rfl rfl ?_
                  refine wp_s (i := .bipush 40) (n := 2) (pc' := 60) (st' := [.int 40, .int 28]) rfl rfl ?_
                  refine wp_s (i := .if_icmp .ge 22) (n := 3) (pc' := 63) (st' := []) rfl rfl ?_
                  refine wp_s (i := .aload_n 0) (n := 1) (pc' := 64) (st' := [.ref 114]) rfl rfl ?_
                  refine wp_gf (idx := 74) (a := 114) (v := .ref 136) (pc' := 67) rfl rfl (mm_sn rfl (mm_sn rfl (mm_sn rfl hb_114))) rfl rfl ?_
                  refine wp_s (i := .bipush 40) (n := 2) (pc' := 69) (st' := [.int 40, .ref 136]) rfl rfl ?_
                  refine wp_s (i := .iload_n 1) (n := 1) (pc' := 70) (st' := [.int 0, .int 40, .ref 136]) rfl rfl ?_
                  refine wp_s (i := .imul) (n := 1) (pc' := 71) (st' := [.int 0, .ref 136]) rfl rfl ?_
                  refine wp_s (i := .iload 4) (n := 2) (pc' := 73) (st' := [.int 28, .int 0, .ref 136]) rfl rfl ?_
                  refine wp_s (i := .iadd) (n := 1) (pc' := 74) (st' := [.int 28, .ref 136]) rfl rfl ?_
                  refine wp_s (i := .iconst 0) (n := 1) (pc' := 75) (st' := [.int 0, .int 28, .ref 136]) rfl rfl ?_
                  refine wp_is (l' := (List.replicate 160 0)) (pc' := 76) rfl (mm_sn rfl (mm_sn rfl (mm_sn rfl hb_136))) rfl rfl (mm_sf (mm_sn rfl (mm_sn rfl (mm_sn rfl hb_136)))) rfl ?_
                  refine wp_s (i := .iinc 4 1) (n := 3) (pc' := 79) (ls' := [some (.ref 114), some (.int 0), some (.int w), some (.int u), some (.int 29)]) (st' := []) rfl rfl ?_
                  refine wp_s (i := .goto (-23)) (n := 3) (pc' := 56) (st' := []) rfl rfl ?_
                  refine wp_s (i := .iload 4) (n := 2) (pc' := 58) (st' := [.int 29]) rfl rfl ?_
                  refine wp_s (i := .bipush 40) (n := 2) (pc' := 60) (st' := [.int 40, .int 29]) rfl rfl ?_
                  refine wp_s (i := .if_icmp .ge 22) (n := 3) (pc' := 63) (st' := []) rfl rfl ?_
                  refine wp_s (i := .aload_n 0) (n := 1) (pc' := 64) (st' := [.ref 114]) rfl rfl ?_
                  refine wp_gf (idx := 74) (a := 114) (v := .ref 136) (pc' := 67) rfl rfl (mm_sn rfl (mm_sn rfl (mm_sn rfl hb_114))) rfl rfl ?_
                  refine wp_s (i := .bipush 40) (n := 2) (pc' := 69) (st' := [.int 40, .ref 136]) rfl rfl ?_
                  refine wp_s (i := .iload_n 1) (n := 1) (pc' := 70) (st' := [.int 0, .int 40, .ref 136]) rfl rfl ?_
                  refine wp_s (i := .imul) (n := 1) (pc' := 71) (st' := [.int 0, .ref 136]) rfl rfl ?_
                  refine wp_s (i := .iload 4) (n := 2) (pc' := 73) (st' := [.int 29, .int 0, .ref 136]) rfl rfl ?_
                  refine wp_s (i := .iadd) (n := 1) (pc' := 74) (st' := [.int 29, .ref 136]) rfl rfl ?_
                  refine wp_s (i := .iconst 0) (n := 1) (pc' := 75) (st' := [.int 0, .int 29, .ref 136]) rfl rfl ?_
                  refine wp_is (l' := (List.replicate 160 0)) (pc' := 76) rfl (mm_sn rfl (mm_sn rfl (mm_sn rfl hb_136))) rfl rfl (mm_sf (mm_sn rfl (mm_sn rfl (mm_sn rfl hb_136)))) rfl ?_
                  refine wp_s (i := .iinc 4 1) (n := 3) (pc' := 79) (ls' := [some (.ref 114), some (.int 0), some (.int w), some (.int u), some (.int 30)]) (st' := []) rfl rfl ?_
                  refine wp_s (i := .goto (-23)) (n := 3) (pc' := 56) (st' := []) rfl rfl ?_
                  refine wp_s (i := .iload 4) (n := 2) (pc' := 58) (st' := [.int 30]) rfl rfl ?_
                  refine wp_s (i := .bipush 40) (n := 2) (pc' := 60) (st' := [.int 40, .int 30]) rfl rfl ?_
                  refine wp_s (i := .if_icmp .ge 22) (n := 3) (pc' := 63) (st' := []) rfl rfl ?_
                  refine wp_s (i := .aload_n 0) (n := 1) (pc' := 64) (st' := [.ref 114]) rfl rfl ?_
                  refine wp_gf (idx := 74) (a := 114) (v := .ref 136) (pc' := 67) rfl rfl (mm_sn rfl (mm_sn rfl (mm_sn rfl hb_114))) rfl rfl ?_
                  refine wp_s (i := .bipush 40) (n := 2) (pc' := 69) (st' := [.int 40, .ref 136]) rfl rfl ?_
                  refine wp_s (i := .iload_n 1) (n := 1) (pc' := 70) (st' := [.int 0, .int 40, .ref 136]) rfl rfl ?_
                  refine wp_s (i := .imul) (n := 1) (pc' := 71) (st' := [.int 0, .ref 136]) rfl rfl ?_
                  refine wp_s (i := .iload 4) (n := 2) (pc' := 73) (st' := [.int 30, .int 0, .ref 136]) rfl rfl ?_
                  refine wp_s (i := .iadd) (n := 1) (pc' := 74) (st' := [.int 30, .ref 136]) rfl rfl ?_
                  refine wp_s (i := .iconst 0) (n := 1) (pc' := 75) (st' := [.int 0, .int 30, .ref 136]) rfl rfl ?_
                  refine wp_is (l' := (List.replicate 160 0)) (pc' := 76) rfl (mm_sn rfl (mm_sn rfl (mm_sn rfl hb_136))) rfl rfl (mm_sf (mm_sn rfl (mm_sn rfl (mm_sn rfl hb_136)))) rfl ?_
                  refine wp_s (i := .iinc 4 1) (n := 3) (pc' := 79) (ls' := [some (.ref 114), some (.int 0), some (.int w), some (.int u), some (.int 31)]) (st' := []) rfl rfl ?_
                  refine wp_s (i := .goto (-23)) (n := 3) (pc' := 56) (st' := []) rfl rfl ?_
                  refine wp_s (i := .iload 4) (n := 2) (pc' := 58) (st' := [.int 31]) rfl rfl ?_
                  refine wp_s (i := .bipush 40) (n := 2) (pc' := 60) (st' := [.int 40, .int 31]) rfl rfl ?_
                  refine wp_s (i := .if_icmp .ge 22) (n := 3) (pc' := 63) (st' := []) rfl rfl ?_
                  refine wp_s (i := .aload_n 0) (n := 1) (pc' := 64) (st' := [.ref 114]) rfl rfl ?_
                  refine wp_gf (idx := 74) (a := 114) (v := .ref 136) (pc' := 67) rfl rfl (mm_sn rfl (mm_sn rfl (mm_sn rfl hb_114))) rfl rfl ?_
                  refine wp_s (i := .bipush 40) (n := 2) (pc' := 69) (st' := [.int 40, .ref 136]) rfl rfl ?_
                  refine wp_s (i := .iload_n 1) (n := 1) (pc' := 70) (st' := [.int 0, .int 40, .ref 136]) rfl rfl ?_
                  refine wp_s (i := .imul) (n := 1) (pc' := 71) (st' := [.int 0, .ref 136]) rfl rfl ?_
                  refine wp_s (i := .iload 4) (n := 2) (pc' := 73) (st' := [.int 31, .int 0, .ref 136]) rfl rfl ?_
                  refine wp_s (i := .iadd) (n := 1) (pc' := 74) (st' := [.int 31, .ref 136]) rfl rfl ?_
                  refine wp_s (i := .iconst 0) (n := 1) (pc' := 75) (st' := [.int 0, .int 31, .ref 136]) rfl rfl ?_
                  refine wp_is (l' := (List.replicate 160 0)) (pc' := 76) rfl (mm_sn rfl (mm_sn rfl (mm_sn rfl hb_136))) rfl rfl (mm_sf (mm_sn rfl (mm_sn rfl (mm_sn rfl hb_136)))) rfl ?_
                  refine wp_s (i := .iinc 4 1) (n := 3) (pc' := 79) (ls' := [some (.ref 114), some (.int 0), some (.int w), some (.int u), some (.int 32)]) (st' := []) rfl rfl ?_
                  refine wp_s (i := .goto (-23)) (n := 3) (pc' := 56) (st' := []) rfl rfl ?_
                  refine wp_s (i := .iload 4) (n := 2) (pc' := 58) (st' := [.int 32]) rfl rfl ?_
                  refine wp_s (i := .bipush 40) (n := 2) (pc' := 60) (st' := [.int 40, .int 32]) rfl rfl ?_
                  refine wp_s (i := .if_icmp .ge 22) (n := 3) (pc' := 63) (st' := []) rfl rfl ?_
                  refine wp_s (i := .aload_n 0) (n := 1) (pc' := 64) (st' := [.ref 114]) rfl rfl ?_
                  refine wp_gf (idx := 74) (a := 114) (v := .ref 136) (pc' := 67) rfl rfl (mm_sn rfl (mm_sn rfl (mm_sn rfl hb_114))) rfl rfl ?_
                  refine wp_s (i := .bipush 40) (n := 2) (pc' := 69) (st' := [.int 40, .ref 136]) rfl rfl ?_
                  refine wp_s (i := .iload_n 1) (n := 1) (pc' := 70) (st' := [.int 0, .int 40, .ref 136]) rfl rfl ?_
                  refine wp_s (i := .imul) (n := 1) (pc' := 71) (st' := [.int 0, .ref 136]) rfl rfl ?_
                  refine wp_s (i := .iload 4) (n := 2) (pc' := 73) (st' := [.int 32, .int 0, .ref 136]) rfl rfl ?_
                  refine wp_s (i := .iadd) (n := 1) (pc' := 74) (st' := [.int 32, .ref 136]) rfl rfl ?_
                  refine wp_s (i := .iconst 0) (n := 1) (pc' := 75) (st' := [.int 0, .int 32, .ref 136]) rfl rfl ?_
                  refine wp_is (l' := (List.replicate 160 0)) (pc' := 76) rfl (mm_sn rfl (mm_sn rfl (mm_sn rfl hb_136))) rfl rfl (mm_sf (mm_sn rfl (mm_sn rfl (mm_sn rfl hb_136)))) rfl ?_
                  refine wp_s (i := .iinc 4 1) (n := 3) (pc' := 79) (ls' := [some (.ref 114), some (.int 0), some (.int w), some (.int u), some (.int 33)]) (st' := []) rfl rfl ?_
                  refine wp_s (i := .goto (-23)) (n := 3) (pc' := 56) (st' := []) rfl rfl ?_
                  refine wp_s (i := .iload 4) (n := 2) (pc' := 58) (st' := [.int 33]) rfl rfl ?_
                  refine wp_s (i := .bipush 40) (n := 2) (pc' := 60) (st' := [.int 40, .int 33]) rfl rfl ?_
                  refine wp_s (i := .if_icmp .ge 22) (n := 3) (pc' := 63) (st' := []) rfl rfl ?_
                  refine wp_s (i := .aload_n 0) (n := 1) (pc' := 64) (st' := [.ref 114]) rfl rfl ?_
                  refine wp_gf (idx := 74) (a := 114) (v := .ref 136) (pc' := 67) rfl rfl (mm_sn rfl (mm_sn rfl (mm_sn rfl hb_114))) rfl rfl ?_
                  refine wp_s (i := .bipush 40) (n := 2) (pc' := 69) (st' := [.int 40, .ref 136]) rfl rfl ?_
                  refine wp_s (i := .iload_n 1) (n := 1) (pc' := 70) (st' := [.int 0, .int 40, .ref 136]) rfl rfl ?_
                  refine wp_s (i := .imul) (n := 1) (pc' := 71) (st' := [.int 0, .ref 136]) rfl rfl ?_
                  refine wp_s (i := .iload 4) (n := 2) (pc' := 73) (st' := [.int 33, .int 0, .ref 136]) rfl rfl ?_
                  refine wp_s (i := .iadd) (n := 1) (pc' := 74) (st' := [.int 33, .ref 136]) rfl rfl ?_
                  refine wp_s (i := .iconst 0) (n := 1) (pc' := 75) (st' := [.int 0, .int 33, .ref 136]) rfl rfl ?_
                  refine wp_is (l' := (List.replicate 160 0)) (pc' := 76) rfl (mm_sn rfl (mm_sn rfl (mm_sn rfl hb_136))) rfl rfl (mm_sf (mm_sn rfl (mm_sn rfl (mm_sn rfl hb_136)))) rfl ?_
                  refine wp_s (i := .iinc 4 1) (n := 3) (pc' := 79) (ls' := [some (.ref 114), some (.int 0), some (.int w), some (.int u), some (.int 34)]) (st' := []) rfl rfl ?_
                  refine wp_s (i := .goto (-23)) (n := 3) (pc' := 56) (st' := []) rfl rfl ?_
                  refine wp_s (i := .iload 4) (n := 2) (pc' := 58) (st' := [.int 34]) rfl rfl ?_
                  refine wp_s (i := .bipush 40) (n := 2) (pc' := 60) (st' := [.int 40, .int 34]) rfl rfl ?_
                  refine wp_s (i := .if_icmp .ge 22) (n := 3) (pc' := 63) (st' := []) rfl rfl ?_
                  refine wp_s (i := .aload_n 0) (n := 1) (pc' := 64) (st' := [.ref 114]) rfl rfl ?_
                  refine wp_gf (idx := 74) (a := 114) (v := .ref 136) (pc' := 67) rfl rfl (mm_sn rfl (mm_sn rfl (mm_sn rfl hb_114))) rfl rfl ?_
                  refine wp_s (i := .bipush 40) (n := 2) (pc' := 69) (st' := [.int 40, .ref 136]) rfl rfl ?_
                  refine wp_s (i := .iload_n 1) (n := 1) (pc' := 70) (st' := [.int 0, .int 40, .ref 136]) rfl rfl ?_
                  refine wp_s (i := .imul) (n := 1) (pc' := 71) (st' := [.int 0, .ref 136]) rfl rfl ?_
                  refine wp_s (i := .iload 4) (n := 2) (pc' := 73) (st' := [.int 34, .int 0, .ref 136]) rfl rfl ?_
                  refine wp_s (i := .iadd) (n := 1) (pc' := 74) (st' := [.int 34, .ref 136]) rfl rfl ?_
                  refine wp_s (i := .iconst 0) (n := 1) (pc' := 75) (st' := [.int 0, .int 34, .ref 136]) rfl rfl ?_
                  refine wp_is (l' := (List.replicate 160 0)) (pc' := 76) rfl (mm_sn rfl (mm_sn rfl (mm_sn rfl hb_136))) rfl rfl (mm_sf (mm_sn rfl (mm_sn rfl (mm_sn rfl hb_136)))) rfl ?_
                  refine wp_s (i := .iinc 4 1) (n := 3) (pc' := 79) (ls' := [some (.ref 114), some (.int 0), some (.int w), some (.int u), some (.int 35)]) (st' := []) rfl rfl ?_
                  refine wp_s (i := .goto (-23)) (n := 3) (pc' := 56) (st' := []) rfl rfl ?_
                  refine wp_s (i := .iload 4) (n := 2) (pc' := 58) (st' := [.int 35]) rfl rfl ?_
                  refine wp_s (i := .bipush 40) (n := 2) (pc' := 60) (st' := [.int 40, .int 35]) rfl rfl ?_
                  refine wp_s (i := .if_icmp .ge 22) (n := 3) (pc' := 63) (st' := []) rfl rfl ?_
                  refine wp_s (i := .aload_n 0) (n := 1) (pc' := 64) (st' := [.ref 114]) rfl rfl ?_
                  refine wp_gf (idx := 74) (a := 114) (v := .ref 136) (pc' := 67) rfl rfl (mm_sn rfl (mm_sn rfl (mm_sn rfl hb_114))) rfl rfl ?_
                  refine wp_s (i := .bipush 40) (n := 2) (pc' := 69) (st' := [.int 40, .ref 136]) rfl rfl ?_
                  refine wp_s (i := .iload_n 1) (n := 1) (pc' := 70) (st' := [.int 0, .int 40, .ref 136]) rfl rfl ?_
                  refine wp_s (i := .imul) (n := 1) (pc' := 71) (st' := [.int 0, .ref 136]) rfl rfl ?_
                  refine wp_s (i := .iload 4) (n := 2) (pc' := 73) (st' := [.int 35, .int 0, .ref 136]) rfl rfl ?_
                  refine wp_s (i := .iadd) (n := 1) (pc' := 74) (st' := [.int 35, .ref 136]) rfl rfl ?_
                  refine wp_s (i := .iconst 0) (n := 1) (pc' := 75) (st' := [.int 0, .int 35, .ref 136]) rfl rfl ?_
                  refine wp_is (l' := (List.replicate 160 0)) (pc' := 76) rfl (mm_sn rfl (mm_sn rfl (mm_sn rfl hb_136))) rfl rfl (mm_sf (mm_sn rfl (mm_sn rfl (mm_sn rfl hb_136)))) rfl ?_
                  refine wp_s (i := .iinc 4 1) (n := 3) (pc' := 79) (ls' := [some (.ref 114), some (.int 0), some (.int w), some (.int u), some (.int 36)]) (st' := []) rfl rfl ?_
                  refine wp_s (i := .goto (-23)) (n := 3) (pc' := 56) (st' := []) rfl rfl ?_
                  refine wp_s (i := .iload 4) (n := 2) (pc' := 58) (st' := [.int 36]) rfl rfl ?_
                  refine wp_s (i := .bipush 40) (n := 2) (pc' := 60) (st' := [.int 40, .int 36]) rfl rfl ?_
                  refine wp_s (i := .if_icmp .ge 22) (n := 3) (pc' := 63) (st' := []) rfl rfl ?_
                  refine wp_s (i := .aload_n 0) (n := 1) (pc' := 64) (st' := [.ref 114]) rfl rfl ?_
                  refine wp_gf (idx := 74) (a := 114) (v := .ref 136) (pc' := 67) rfl rfl (mm_sn rfl (mm_sn rfl (mm_sn rfl hb_114))) rfl rfl ?_
                  refine wp_s (i := .bipush 40) (n := 2) (pc' := 69) (st' := [.int 40, .ref 136]) rfl rfl ?_
                  refine wp_s (i := .iload_n 1) (n := 1) (pc' := 70) (st' := [.int 0, .int 40, .ref 136]) rfl rfl ?_
                  refine wp_s (i := .imul) (n := 1) (pc' := 71) (st' := [.int 0, .ref 136]) rfl rfl ?_
                  refine wp_s (i := .iload 4) (n := 2) (pc' := 73) (st' := [.int 36, .int 0, .ref 136]) rfl rfl ?_
                  refine wp_s (i := .iadd) (n := 1) (pc' := 74) (st' := [.int 36, .ref 136]) rfl rfl ?_
                  refine wp_s (i := .iconst 0) (n := 1) (pc' := 75) (st' := [.int 0, .int 36, .ref 136]) rfl rfl ?_
                  refine wp_is (l' := (List.replicate 160 0)) (pc' := 76) rfl (mm_sn rfl (mm_sn rfl (mm_sn rfl hb_136))) rfl rfl (mm_sf (mm_sn rfl (mm_sn rfl (mm_sn rfl hb_136)))) rfl ?_
                  refine wp_s (i := .iinc 4 1) (n := 3) (pc' := 79) (ls' := [some (.ref 114), some (.int 0), some (.int w), some (.int u), some (.int 37)]) (st' := []) rfl rfl ?_
                  refine wp_s (i := .goto (-23)) (n := 3) (pc' := 56) (st' := []) rfl rfl ?_
                  refine wp_s (i := .iload 4) (n := 2) (pc' := 58) (st' := [.int 37]) rfl rfl ?_
                  refine wp_s (i := .bipush 40) (n := 2) (pc' := 60) (st' := [.int 40, .int 37]) rfl rfl ?_
                  refine wp_s (i := .if_icmp .ge 22) (n := 3) (pc' := 63) (st' := []) rfl rfl ?_
                  refine wp_s (i := .aload_n 0) (n := 1) (pc' := 64) (st' := [.ref 114]) rfl rfl ?_
                  refine wp_gf (idx := 74) (a := 114) (v := .ref 136) (pc' := 67) rfl rfl (mm_sn rfl (mm_sn rfl (mm_sn rfl hb_114))) rfl rfl ?_
                  refine wp_s (i := .bipush 40) (n := 2) (pc' := 69) (st' := [.int 40, .ref 136]) rfl rfl ?_
                  refine wp_s (i := .iload_n 1) (n := 1) (pc' := 70) (st' := [.int 0, .int 40, .ref 136]) rfl rfl ?_
                  refine wp_s (i := .imul) (n := 1) (pc' := 71) (st' := [.int 0, .ref 136]) rfl rfl ?_
                  refine wp_s (i := .iload 4) (n := 2) (pc' := 73) (st' := [.int 37, .int 0, .ref 136]) rfl rfl ?_
                  refine wp_s (i := .iadd) (n := 1) (pc' := 74) (st' := [.int 37, .ref 136]) rfl rfl ?_
                  refine wp_s (i := .iconst 0) (n := 1) (pc' := 75) (st' := [.int 0, .int 37, .ref 136]) rfl rfl ?_
                  refine wp_is (l' := (List.replicate 160 0)) (pc' := 76) rfl (mm_sn rfl (mm_sn rfl (mm_sn rfl hb_136))) rfl rfl (mm_sf (mm_sn rfl (mm_sn rfl (mm_sn rfl hb_136)))) rfl ?_
                  refine wp_s (i := .iinc 4 1) (n := 3) (pc' := 79) (ls' := [some (.ref 114), some (.int 0), some (.int w), some (.int u), some (.int 38)]) (st' := []) rfl rfl ?_
                  refine wp_s (i := .goto (-23)) (n := 3) (pc' := 56) (st' := []) rfl rfl ?_
                  refine wp_s (i := .iload 4) (n := 2) (pc' := 58) (st' := [.int 38]) rfl rfl ?_
                  refine wp_s (i := .bipush 40) (n := 2) (pc' := 60) (st' := [.int 40, .int 38]) rfl rfl ?_
                  refine wp_s (i := .if_icmp .ge 22) (n := 3) (pc' := 63) (st' := []) rfl rfl ?_
                  refine wp_s (i := .aload_n 0) (n := 1) (pc' := 64) (st' := [.ref 114]) rfl rfl ?_
                  refine wp_gf (idx := 74) (a := 114) (v := .ref 136) (pc' := 67) rfl rfl (mm_sn rfl (mm_sn rfl (mm_sn rfl hb_114))) rfl rfl ?_
                  refine wp_s (i := .bipush 40) (n := 2) (pc' := 69) (st' := [.int 40, .ref 136]) rfl rfl ?_
                  refine wp_s (i := .iload_n 1) (n := 1) (pc' := 70) (st' := [.int 0, .int 40, .ref 136]) rfl rfl ?_
                  refine wp_s (i := .imul) (n := 1) (pc' := 71) (st' := [.int 0, .ref 136]) rfl rfl ?_
                  refine wp_s (i := .iload 4) (n := 2) (pc' := 73) (st' := [.int 38, .int 0, .ref 136]) rfl rfl ?_
                  refine wp_s (i := .iadd) (n := 1) (pc' := 74) (st' := [.int 38, .ref 136]) rfl rfl ?_
                  refine wp_s (i := .iconst 0) (n := 1) (pc' := 75) (st' := [.int 0, .int 38, .ref 136]) rfl rfl ?_
                  refine wp_is (l' := (List.replicate 160 0)) (pc' := 76) rfl (mm_sn rfl (mm_sn rfl (mm_sn rfl hb_136))) rfl rfl (mm_sf (mm_sn rfl (mm_sn rfl (mm_sn rfl hb_136)))) rfl ?_
                  refine wp_s (i := .iinc 4 1) (n := 3) (pc' := 79) (ls' := [some (.ref 114), some (.int 0), some (.int w), some (.int u), some (.int 39)]) (st' := []) rfl rfl ?_
                  refine wp_s (i := .goto (-23)) (n := 3) (pc' := 56) (st' := []) rfl rfl ?_
                  refine wp_s (i := .iload 4) (n := 2) (pc' := 58) (st' := [.int 39]) rfl rfl ?_
                  refine wp_s (i := .bipush 40) (n := 2) (pc' := 60) (st' := [.int 40, .int 39]) rfl rfl ?_
                  refine wp_s (i := .if_icmp .ge 22) (n := 3) (pc' := 63) (st' := []) rfl rfl ?_
                  refine wp_s (i := .aload_n 0) (n := 1) (pc' := 64) (st' := [.ref 114]) rfl rfl ?_
                  refine wp_gf (idx := 74) (a := 114) (v := .ref 136) (pc' := 67) rfl rfl (mm_sn rfl (mm_sn rfl (mm_sn rfl hb_114))) rfl rfl ?_
                  refine wp_s (i := .bipush 40) (n := 2) (pc' := 69) (st' := [.int 40, .ref 136]) rfl rfl ?_
                  refine wp_s (i := .iload_n 1) (n := 1) (pc' := 70) (st' := [.int 0, .int 40, .ref 136]) rfl rfl ?_
                  refine wp_s (i := .imul) (n := 1) (pc' := 71) (st' := [.int 0, .ref 136]) rfl rfl ?_
                  refine wp_s (i := .iload 4) (n := 2) (pc' := 73) (st' := [.int 39, .int 0, .ref 136]) rfl rfl ?_
                  refine wp_s (i := .iadd) (n := 1) (pc' := 74) (st' := [.int 39, .ref 136]) rfl rfl ?_
                  refine wp_s (i := .iconst 0) (n := 1) (pc' := 75) (st' := [.int 0, .int 39, .ref 136]) rfl rfl ?_
                  refine wp_is (l' := (List.replicate 160 0)) (pc' := 76) rfl (mm_sn rfl (mm_sn rfl (mm_sn rfl hb_136))) rfl rfl (mm_sf (mm_sn rfl (mm_sn rfl (mm_sn rfl hb_136)))) rfl ?_
                  refine wp_s (i := .iinc 4 1) (n := 3) (pc' := 79) (ls' := [some (.ref 114), some (.int 0), some (.int w), some (.int u), some (.int 40)]) (st' := []) rfl rfl ?_
                  refine wp_s (i := .goto (-23)) (n := 3) (pc' := 56) (st' := []) rfl rfl ?_
                  refine wp_s (i := .iload 4) (n := 2) (pc' := 58) (st' := [.int 40]) rfl rfl ?_
                  refine wp_s (i := .bipush 40) (n := 2) (pc' := 60) (st' := [.int 40, .int 40]) rfl rfl ?_
                  refine wp_s (i := .if_icmp .ge 22) (n := 3) (pc' := 82) (st' := []) rfl rfl ?_
                  refine wp_s (i := .iconst 1) (n := 1) (pc' := 83) (st' := [.int 1]) rfl rfl ?_
                  refine wp_r (i := .ireturn) (n := 1) (v := some (.int 1)) rfl rfl ?_
                  exact ⟨rfl, (pk_okS (pk_okS (pk_okS pk_ok0 hb_106 rfl) (mm_sn rfl hb_134) rfl) (mm_sn rfl (mm_sn rfl hb_135)) rfl)⟩
                · skip
                  have q11 : (u).toInt < 0 := by have := mc_f_ge hc11; simpa using this
                  exfalso; omega
              · skip
                have q10 : (u).toInt > 40 := by have := mc_f_le hc10; simpa using this
                exfalso; omega
        · skip
          have q7 : (u).toInt < 0 := by have := mc_f_ge hc7; simpa using this
          show mm_Wp _ _ _ 26 _ _ _ _
          refine wp_s (i := .bipush (-14)) (n := 2) (pc' := 28) (st' := [.int (-14)]) rfl rfl ?_
          refine wp_r (i := .ireturn) (n := 1) (v := some (.int (-14))) rfl rfl ?_
          refine ⟨(-14), rfl, ⟨_, hb_114⟩, ?_⟩
          show mm_Wp X 12 mm_r187 0 [some (.ref 114), some (.int 0), some (.int w), some (.int u), none] [] _ _
          refine wp_s (i := .iload_n 1) (n := 1) (pc' := 1) (st' := [.int 0]) rfl rfl ?_
          refine wp_s (i := .i2l) (n := 1) (pc' := 2) (st' := [.long 0]) rfl rfl ?_
          refine wp_s (i := .lconst 0) (n := 1) (pc' := 3) (st' := [.long 0, .long 0]) rfl rfl ?_
          refine wp_s (i := .ldc2_w 285) (n := 3) (pc' := 6) (st' := [.long 3, .long 0, .long 0]) rfl rfl ?_
          refine wp_c (i := .invokestatic 81) (n := 3) (Dq := 11) (r' := mm_r120) (as := [.long 0, .long 0, .long 3]) (rest := []) (ls' := [some (.long 0), none, some (.long 0), none, some (.long 3), none]) rfl rfl rfl ?_
          refine wp_x 16 (v := some (.int 1)) (h' := hp_0) (mm_dec (by decide +kernel)) ?_
          show mm_Wp X 12 mm_r187 9 [some (.ref 114), some (.int 0), some (.int w), some (.int u), none] [.int 1] _ _
          refine wp_s (i := .ifCond .eq 21) (n := 3) (pc' := 12) (st' := []) rfl rfl ?_
          refine wp_s (i := .iload_n 2) (n := 1) (pc' := 13) (st' := [.int w]) rfl rfl ?_
          refine wp_s (i := .i2l) (n := 1) (pc' := 14) (st' := [.long ((w).toInt64)]) rfl rfl ?_
          refine wp_s (i := .lconst 0) (n := 1) (pc' := 15) (st' := [.long 0, .long ((w).toInt64)]) rfl rfl ?_
          refine wp_s (i := .ldc2_w 198) (n := 3) (pc' := 18) (st' := [.long 2, .long 0, .long ((w).toInt64)]) rfl rfl ?_
          refine wp_c (i := .invokestatic 81) (n := 3) (Dq := 11) (r' := mm_r120) (as := [.long ((w).toInt64), .long 0, .long 2]) (rest := []) (ls' := [some (.long ((w).toInt64)), none, some (.long 0), none, some (.long 2), none]) rfl rfl rfl ?_
          refine wp_s (i := .lload_n 0) (n := 1) (pc' := 1) (st' := [.long ((w).toInt64)]) rfl rfl ?_
          refine wp_s (i := .lload_n 2) (n := 1) (pc' := 2) (st' := [.long 0, .long ((w).toInt64)]) rfl rfl ?_
          refine wp_s (i := .lcmp) (n := 1) (pc' := 3) (st' := [.int (lg_cmp ((w).toInt64) 0)]) rfl rfl ?_
          refine wp_if (t := 17) (st := []) rfl rfl (fun hc12 => ?_) (fun hc12 => ?_)
          · skip
            have q12 : (w).toInt < 0 := by have := lc_t_lt hc12; simpa using this
            exfalso; omega
          · skip
            have q12 : (w).toInt ≥ 0 := by have := lc_f_lt hc12; simpa using this
            show mm_Wp _ _ _ 6 _ _ _ _
            refine wp_s (i := .lload_n 0) (n := 1) (pc' := 7) (st' := [.long ((w).toInt64)]) rfl rfl ?_
            refine wp_s (i := .lload 4) (n := 2) (pc' := 9) (st' := [.long 2, .long ((w).toInt64)]) rfl rfl ?_
            refine wp_s (i := .lcmp) (n := 1) (pc' := 10) (st' := [.int (lg_cmp ((w).toInt64) 2)]) rfl rfl ?_
            refine wp_if (t := 17) (st := []) rfl rfl (fun hc13 => ?_) (fun hc13 => ?_)
            · skip
              have q13 : (w).toInt > 2 := by have := lc_t_gt hc13; simpa using this
              exfalso; omega
            · skip
              have q13 : (w).toInt ≤ 2 := by have := lc_f_gt hc13; simpa using this
              show mm_Wp _ _ _ 13 _ _ _ _
              refine wp_s (i := .iconst 1) (n := 1) (pc' := 14) (st' := [.int 1]) rfl rfl ?_
              refine wp_s (i := .goto 4) (n := 3) (pc' := 18) (st' := [.int 1]) rfl rfl ?_
              refine wp_r (i := .ireturn) (n := 1) (v := some (.int 1)) rfl rfl ?_
              show mm_Wp X 12 mm_r187 21 [some (.ref 114), some (.int 0), some (.int w), some (.int u), none] [.int 1] _ _
              refine wp_s (i := .ifCond .eq 9) (n := 3) (pc' := 24) (st' := []) rfl rfl ?_
              refine wp_s (i := .iload_n 3) (n := 1) (pc' := 25) (st' := [.int u]) rfl rfl ?_
              refine wp_s (i := .bipush 40) (n := 2) (pc' := 27) (st' := [.int 40, .int u]) rfl rfl ?_
              refine wp_ic (t := 32) (st := []) rfl rfl (fun hc14 => ?_) (fun hc14 => ?_)
              · skip
                have q14 : (u).toInt ≤ 40 := by have := mc_t_le hc14; simpa using this
                show mm_Wp _ _ _ 32 _ _ _ _
                refine wp_s (i := .iload_n 3) (n := 1) (pc' := 33) (st' := [.int u]) rfl rfl ?_
                refine wp_if (t := 39) (st := []) rfl rfl (fun hc15 => ?_) (fun hc15 => ?_)
                · skip
                  have q15 : (u).toInt ≥ 0 := by have := mc_t_ge hc15; simpa using this
                  exfalso; omega
                · skip
                  have q15 : (u).toInt < 0 := by have := mc_f_ge hc15; simpa using this
                  show mm_Wp _ _ _ 36 _ _ _ _
                  refine wp_s (i := .bipush (-14)) (n := 2) (pc' := 38) (st' := [.int (-14)]) rfl rfl ?_
                  refine wp_r (i := .ireturn) (n := 1) (v := some (.int (-14))) rfl rfl ?_
                  exact ⟨rfl, pk_ok0⟩
              · skip
                have q14 : (u).toInt > 40 := by have := mc_f_le hc14; simpa using this
                exfalso; omega
      · skip
        have q6 : (u).toInt > 40 := by have := mc_f_le hc6; simpa using this
        show mm_Wp _ _ _ 20 _ _ _ _
        refine wp_s (i := .iconst (-1)) (n := 1) (pc' := 21) (st' := [.int (-1)]) rfl rfl ?_
        refine wp_r (i := .ireturn) (n := 1) (v := some (.int (-1))) rfl rfl ?_
        refine ⟨(-1), rfl, ⟨_, hb_114⟩, ?_⟩
        show mm_Wp X 12 mm_r187 0 [some (.ref 114), some (.int 0), some (.int w), some (.int u), none] [] _ _
        refine wp_s (i := .iload_n 1) (n := 1) (pc' := 1) (st' := [.int 0]) rfl rfl ?_
        refine wp_s (i := .i2l) (n := 1) (pc' := 2) (st' := [.long 0]) rfl rfl ?_
        refine wp_s (i := .lconst 0) (n := 1) (pc' := 3) (st' := [.long 0, .long 0]) rfl rfl ?_
        refine wp_s (i := .ldc2_w 285) (n := 3) (pc' := 6) (st' := [.long 3, .long 0, .long 0]) rfl rfl ?_
        refine wp_c (i := .invokestatic 81) (n := 3) (Dq := 11) (r' := mm_r120) (as := [.long 0, .long 0, .long 3]) (rest := []) (ls' := [some (.long 0), none, some (.long 0), none, some (.long 3), none]) rfl rfl rfl ?_
        refine wp_x 16 (v := some (.int 1)) (h' := hp_0) (mm_dec (by decide +kernel)) ?_
        show mm_Wp X 12 mm_r187 9 [some (.ref 114), some (.int 0), some (.int w), some (.int u), none] [.int 1] _ _
        refine wp_s (i := .ifCond .eq 21) (n := 3) (pc' := 12) (st' := []) rfl rfl ?_
        refine wp_s (i := .iload_n 2) (n := 1) (pc' := 13) (st' := [.int w]) rfl rfl ?_
        refine wp_s (i := .i2l) (n := 1) (pc' := 14) (st' := [.long ((w).toInt64)]) rfl rfl ?_
        refine wp_s (i := .lconst 0) (n := 1) (pc' := 15) (st' := [.long 0, .long ((w).toInt64)]) rfl rfl ?_
        refine wp_s (i := .ldc2_w 198) (n := 3) (pc' := 18) (st' := [.long 2, .long 0, .long ((w).toInt64)]) rfl rfl ?_
        refine wp_c (i := .invokestatic 81) (n := 3) (Dq := 11) (r' := mm_r120) (as := [.long ((w).toInt64), .long 0, .long 2]) (rest := []) (ls' := [some (.long ((w).toInt64)), none, some (.long 0), none, some (.long 2), none]) rfl rfl rfl ?_
        refine wp_s (i := .lload_n 0) (n := 1) (pc' := 1) (st' := [.long ((w).toInt64)]) rfl rfl ?_
        refine wp_s (i := .lload_n 2) (n := 1) (pc' := 2) (st' := [.long 0, .long ((w).toInt64)]) rfl rfl ?_
        refine wp_s (i := .lcmp) (n := 1) (pc' := 3) (st' := [.int (lg_cmp ((w).toInt64) 0)]) rfl rfl ?_
        refine wp_if (t := 17) (st := []) rfl rfl (fun hc16 => ?_) (fun hc16 => ?_)
        · skip
          have q16 : (w).toInt < 0 := by have := lc_t_lt hc16; simpa using this
          exfalso; omega
        · skip
          have q16 : (w).toInt ≥ 0 := by have := lc_f_lt hc16; simpa using this
          show mm_Wp _ _ _ 6 _ _ _ _
          refine wp_s (i := .lload_n 0) (n := 1) (pc' := 7) (st' := [.long ((w).toInt64)]) rfl rfl ?_
          refine wp_s (i := .lload 4) (n := 2) (pc' := 9) (st' := [.long 2, .long ((w).toInt64)]) rfl rfl ?_
          refine wp_s (i := .lcmp) (n := 1) (pc' := 10) (st' := [.int (lg_cmp ((w).toInt64) 2)]) rfl rfl ?_
          refine wp_if (t := 17) (st := []) rfl rfl (fun hc17 => ?_) (fun hc17 => ?_)
          · skip
            have q17 : (w).toInt > 2 := by have := lc_t_gt hc17; simpa using this
            exfalso; omega
          · skip
            have q17 : (w).toInt ≤ 2 := by have := lc_f_gt hc17; simpa using this
            show mm_Wp _ _ _ 13 _ _ _ _
            refine wp_s (i := .iconst 1) (n := 1) (pc' := 14) (st' := [.int 1]) rfl rfl ?_
            refine wp_s (i := .goto 4) (n := 3) (pc' := 18) (st' := [.int 1]) rfl rfl ?_
            refine wp_r (i := .ireturn) (n := 1) (v := some (.int 1)) rfl rfl ?_
            show mm_Wp X 12 mm_r187 21 [some (.ref 114), some (.int 0), some (.int w), some (.int u), none] [.int 1] _ _
            refine wp_s (i := .ifCond .eq 9) (n := 3) (pc' := 24) (st' := []) rfl rfl ?_
            refine wp_s (i := .iload_n 3) (n := 1) (pc' := 25) (st' := [.int u]) rfl rfl ?_
            refine wp_s (i := .bipush 40) (n := 2) (pc' := 27) (st' := [.int 40, .int u]) rfl rfl ?_
            refine wp_ic (t := 32) (st := []) rfl rfl (fun hc18 => ?_) (fun hc18 => ?_)
            · skip
              have q18 : (u).toInt ≤ 40 := by have := mc_t_le hc18; simpa using this
              exfalso; omega
            · skip
              have q18 : (u).toInt > 40 := by have := mc_f_le hc18; simpa using this
              show mm_Wp _ _ _ 30 _ _ _ _
              refine wp_s (i := .iconst (-1)) (n := 1) (pc' := 31) (st' := [.int (-1)]) rfl rfl ?_
              refine wp_r (i := .ireturn) (n := 1) (v := some (.int (-1))) rfl rfl ?_
              exact ⟨rfl, pk_ok0⟩
set_option maxRecDepth 20000 in
set_option maxHeartbeats 4000000 in
theorem pk_33_1 (X : Option (List Int32)) (w u : Int32) : mm_Wp X 12 mm_r98 0 [some (.ref 0), some (.int 1), some (.int w), some (.int u)] [] hp_0 (fun v1 h1 => ∃ x : Int32, v1 = some (.int x) ∧ (∃ fs, h1[114]? = some (.inr (10, fs))) ∧ mm_Wp X 12 mm_r187 0 [some (.ref 114), some (.int 1), some (.int w), some (.int u), none] [] h1 (fun v2 h2 => v2 = some (.int x) ∧ pk_ok h2)) := by
  refine wp_s (i := .iload_n 1) (n := 1) (pc' := 1) (st' := [.int 1]) rfl rfl ?_
  refine wp_c (i := .invokestatic 301) (n := 3) (Dq := 11) (r' := mm_r107) (as := [.int 1]) (rest := []) (ls' := [some (.int 1)]) rfl rfl rfl ?_
  refine wp_x 13 (v := some (.int 1)) (h' := hp_0) (mm_dec (by decide +kernel)) ?_
  show mm_Wp X 12 mm_r98 4 [some (.ref 0), some (.int 1), some (.int w), some (.int u)] [.int 1] _ _
  refine wp_s (i := .ifCond .eq 16) (n := 3) (pc' := 7) (st' := []) rfl rfl ?_
  refine wp_s (i := .iload_n 2) (n := 1) (pc' := 8) (st' := [.int w]) rfl rfl ?_
  refine wp_c (i := .invokestatic 304) (n := 3) (Dq := 11) (r' := mm_r108) (as := [.int w]) (rest := []) (ls' := [some (.int w)]) rfl rfl rfl ?_
  refine wp_s (i := .iload_n 0) (n := 1) (pc' := 1) (st' := [.int w]) rfl rfl ?_
  refine wp_if (t := 13) (st := []) rfl rfl (fun hc1 => ?_) (fun hc1 => ?_)
  · skip
    have q1 : (w).toInt < 0 := by have := mc_t_lt hc1; simpa using this
    show mm_Wp _ _ _ 13 _ _ _ _
    refine wp_s (i := .iconst 0) (n := 1) (pc' := 14) (st' := [.int 0]) rfl rfl ?_
    refine wp_r (i := .ireturn) (n := 1) (v := some (.int 0)) rfl rfl ?_
    show mm_Wp X 12 mm_r98 11 [some (.ref 0), some (.int 1), some (.int w), some (.int u)] [.int 0] _ _
    refine wp_s (i := .ifCond .eq 9) (n := 3) (pc' := 20) (st' := []) rfl rfl ?_
    refine wp_s (i := .iconst (-1)) (n := 1) (pc' := 21) (st' := [.int (-1)]) rfl rfl ?_
    refine wp_r (i := .ireturn) (n := 1) (v := some (.int (-1))) rfl rfl ?_
    refine ⟨(-1), rfl, ⟨_, hb_114⟩, ?_⟩
    show mm_Wp X 12 mm_r187 0 [some (.ref 114), some (.int 1), some (.int w), some (.int u), none] [] _ _
    refine wp_s (i := .iload_n 1) (n := 1) (pc' := 1) (st' := [.int 1]) rfl rfl ?_
    refine wp_s (i := .i2l) (n := 1) (pc' := 2) (st' := [.long 1]) rfl rfl ?_
    refine wp_s (i := .lconst 0) (n := 1) (pc' := 3) (st' := [.long 0, .long 1]) rfl rfl ?_
    refine wp_s (i := .ldc2_w 285) (n := 3) (pc' := 6) (st' := [.long 3, .long 0, .long 1]) rfl rfl ?_
    refine wp_c (i := .invokestatic 81) (n := 3) (Dq := 11) (r' := mm_r120) (as := [.long 1, .long 0, .long 3]) (rest := []) (ls' := [some (.long 1), none, some (.long 0), none, some (.long 3), none]) rfl rfl rfl ?_
    refine wp_x 16 (v := some (.int 1)) (h' := hp_0) (mm_dec (by decide +kernel)) ?_
    show mm_Wp X 12 mm_r187 9 [some (.ref 114), some (.int 1), some (.int w), some (.int u), none] [.int 1] _ _
    refine wp_s (i := .ifCond .eq 21) (n := 3) (pc' := 12) (st' := []) rfl rfl ?_
    refine wp_s (i := .iload_n 2) (n := 1) (pc' := 13) (st' := [.int w]) rfl rfl ?_
    refine wp_s (i := .i2l) (n := 1) (pc' := 14) (st' := [.long ((w).toInt64)]) rfl rfl ?_
    refine wp_s (i := .lconst 0) (n := 1) (pc' := 15) (st' := [.long 0, .long ((w).toInt64)]) rfl rfl ?_
    refine wp_s (i := .ldc2_w 198) (n := 3) (pc' := 18) (st' := [.long 2, .long 0, .long ((w).toInt64)]) rfl rfl ?_
    refine wp_c (i := .invokestatic 81) (n := 3) (Dq := 11) (r' := mm_r120) (as := [.long ((w).toInt64), .long 0, .long 2]) (rest := []) (ls' := [some (.long ((w).toInt64)), none, some (.long 0), none, some (.long 2), none]) rfl rfl rfl ?_
    refine wp_s (i := .lload_n 0) (n := 1) (pc' := 1) (st' := [.long ((w).toInt64)]) rfl rfl ?_
    refine wp_s (i := .lload_n 2) (n := 1) (pc' := 2) (st' := [.long 0, .long ((w).toInt64)]) rfl rfl ?_
    refine wp_s (i := .lcmp) (n := 1) (pc' := 3) (st' := [.int (lg_cmp ((w).toInt64) 0)]) rfl rfl ?_
    refine wp_if (t := 17) (st := []) rfl rfl (fun hc2 => ?_) (fun hc2 => ?_)
    · skip
      have q2 : (w).toInt < 0 := by have := lc_t_lt hc2; simpa using this
      show mm_Wp _ _ _ 17 _ _ _ _
      refine wp_s (i := .iconst 0) (n := 1) (pc' := 18) (st' := [.int 0]) rfl rfl ?_
      refine wp_r (i := .ireturn) (n := 1) (v := some (.int 0)) rfl rfl ?_
      show mm_Wp X 12 mm_r187 21 [some (.ref 114), some (.int 1), some (.int w), some (.int u), none] [.int 0] _ _
      refine wp_s (i := .ifCond .eq 9) (n := 3) (pc' := 30) (st' := []) rfl rfl ?_
      refine wp_s (i := .iconst (-1)) (n := 1) (pc' := 31) (st' := [.int (-1)]) rfl rfl ?_
      refine wp_r (i := .ireturn) (n := 1) (v := some (.int (-1))) rfl rfl ?_
      exact ⟨rfl, pk_ok0⟩
    · skip
      have q2 : (w).toInt ≥ 0 := by have := lc_f_lt hc2; simpa using this
      exfalso; omega
  · skip
    have q1 : (w).toInt ≥ 0 := by have := mc_f_lt hc1; simpa using this
    show mm_Wp _ _ _ 4 _ _ _ _
    refine wp_s (i := .iload_n 0) (n := 1) (pc' := 5) (st' := [.int w]) rfl rfl ?_
    refine wp_s (i := .iconst 3) (n := 1) (pc' := 6) (st' := [.int 3, .int w]) rfl rfl ?_
    refine wp_ic (t := 13) (st := []) rfl rfl (fun hc3 => ?_) (fun hc3 => ?_)
    · skip
      have q3 : (w).toInt ≥ 3 := by have := mc_t_ge hc3; simpa using this
      show mm_Wp _ _ _ 13 _ _ _ _
      refine wp_s (i := .iconst 0) (n := 1) (pc' := 14) (st' := [.int 0]) rfl rfl ?_
      refine wp_r (i := .ireturn) (n := 1) (v := some (.int 0)) rfl rfl ?_
      show mm_Wp X 12 mm_r98 11 [some (.ref 0), some (.int 1), some (.int w), some (.int u)] [.int 0] _ _
      refine wp_s (i := .ifCond .eq 9) (n := 3) (pc' := 20) (st' := []) rfl rfl ?_
      refine wp_s (i := .iconst (-1)) (n := 1) (pc' := 21) (st' := [.int (-1)]) rfl rfl ?_
      refine wp_r (i := .ireturn) (n := 1) (v := some (.int (-1))) rfl rfl ?_
      refine ⟨(-1), rfl, ⟨_, hb_114⟩, ?_⟩
      show mm_Wp X 12 mm_r187 0 [some (.ref 114), some (.int 1), some (.int w), some (.int u), none] [] _ _
      refine wp_s (i := .iload_n 1) (n := 1) (pc' := 1) (st' := [.int 1]) rfl rfl ?_
      refine wp_s (i := .i2l) (n := 1) (pc' := 2) (st' := [.long 1]) rfl rfl ?_
      refine wp_s (i := .lconst 0) (n := 1) (pc' := 3) (st' := [.long 0, .long 1]) rfl rfl ?_
      refine wp_s (i := .ldc2_w 285) (n := 3) (pc' := 6) (st' := [.long 3, .long 0, .long 1]) rfl rfl ?_
      refine wp_c (i := .invokestatic 81) (n := 3) (Dq := 11) (r' := mm_r120) (as := [.long 1, .long 0, .long 3]) (rest := []) (ls' := [some (.long 1), none, some (.long 0), none, some (.long 3), none]) rfl rfl rfl ?_
      refine wp_x 16 (v := some (.int 1)) (h' := hp_0) (mm_dec (by decide +kernel)) ?_
      show mm_Wp X 12 mm_r187 9 [some (.ref 114), some (.int 1), some (.int w), some (.int u), none] [.int 1] _ _
      refine wp_s (i := .ifCond .eq 21) (n := 3) (pc' := 12) (st' := []) rfl rfl ?_
      refine wp_s (i := .iload_n 2) (n := 1) (pc' := 13) (st' := [.int w]) rfl rfl ?_
      refine wp_s (i := .i2l) (n := 1) (pc' := 14) (st' := [.long ((w).toInt64)]) rfl rfl ?_
      refine wp_s (i := .lconst 0) (n := 1) (pc' := 15) (st' := [.long 0, .long ((w).toInt64)]) rfl rfl ?_
      refine wp_s (i := .ldc2_w 198) (n := 3) (pc' := 18) (st' := [.long 2, .long 0, .long ((w).toInt64)]) rfl rfl ?_
      refine wp_c (i := .invokestatic 81) (n := 3) (Dq := 11) (r' := mm_r120) (as := [.long ((w).toInt64), .long 0, .long 2]) (rest := []) (ls' := [some (.long ((w).toInt64)), none, some (.long 0), none, some (.long 2), none]) rfl rfl rfl ?_
      refine wp_s (i := .lload_n 0) (n := 1) (pc' := 1) (st' := [.long ((w).toInt64)]) rfl rfl ?_
      refine wp_s (i := .lload_n 2) (n := 1) (pc' := 2) (st' := [.long 0, .long ((w).toInt64)]) rfl rfl ?_
      refine wp_s (i := .lcmp) (n := 1) (pc' := 3) (st' := [.int (lg_cmp ((w).toInt64) 0)]) rfl rfl ?_
      refine wp_if (t := 17) (st := []) rfl rfl (fun hc4 => ?_) (fun hc4 => ?_)
      · skip
        have q4 : (w).toInt < 0 := by have := lc_t_lt hc4; simpa using this
        exfalso; omega
      · skip
        have q4 : (w).toInt ≥ 0 := by have := lc_f_lt hc4; simpa using this
        show mm_Wp _ _ _ 6 _ _ _ _
        refine wp_s (i := .lload_n 0) (n := 1) (pc' := 7) (st' := [.long ((w).toInt64)]) rfl rfl ?_
        refine wp_s (i := .lload 4) (n := 2) (pc' := 9) (st' := [.long 2, .long ((w).toInt64)]) rfl rfl ?_
        refine wp_s (i := .lcmp) (n := 1) (pc' := 10) (st' := [.int (lg_cmp ((w).toInt64) 2)]) rfl rfl ?_
        refine wp_if (t := 17) (st := []) rfl rfl (fun hc5 => ?_) (fun hc5 => ?_)
        · skip
          have q5 : (w).toInt > 2 := by have := lc_t_gt hc5; simpa using this
          show mm_Wp _ _ _ 17 _ _ _ _
          refine wp_s (i := .iconst 0) (n := 1) (pc' := 18) (st' := [.int 0]) rfl rfl ?_
          refine wp_r (i := .ireturn) (n := 1) (v := some (.int 0)) rfl rfl ?_
          show mm_Wp X 12 mm_r187 21 [some (.ref 114), some (.int 1), some (.int w), some (.int u), none] [.int 0] _ _
          refine wp_s (i := .ifCond .eq 9) (n := 3) (pc' := 30) (st' := []) rfl rfl ?_
          refine wp_s (i := .iconst (-1)) (n := 1) (pc' := 31) (st' := [.int (-1)]) rfl rfl ?_
          refine wp_r (i := .ireturn) (n := 1) (v := some (.int (-1))) rfl rfl ?_
          exact ⟨rfl, pk_ok0⟩
        · skip
          have q5 : (w).toInt ≤ 2 := by have := lc_f_gt hc5; simpa using this
          exfalso; omega
    · skip
      have q3 : (w).toInt < 3 := by have := mc_f_ge hc3; simpa using this
      show mm_Wp _ _ _ 9 _ _ _ _
      refine wp_s (i := .iconst 1) (n := 1) (pc' := 10) (st' := [.int 1]) rfl rfl ?_
      refine wp_s (i := .goto 4) (n := 3) (pc' := 14) (st' := [.int 1]) rfl rfl ?_
      refine wp_r (i := .ireturn) (n := 1) (v := some (.int 1)) rfl rfl ?_
      show mm_Wp X 12 mm_r98 11 [some (.ref 0), some (.int 1), some (.int w), some (.int u)] [.int 1] _ _
      refine wp_s (i := .ifCond .eq 9) (n := 3) (pc' := 14) (st' := []) rfl rfl ?_
      refine wp_s (i := .iload_n 3) (n := 1) (pc' := 15) (st' := [.int u]) rfl rfl ?_
      refine wp_s (i := .bipush 40) (n := 2) (pc' := 17) (st' := [.int 40, .int u]) rfl rfl ?_
      refine wp_ic (t := 22) (st := []) rfl rfl (fun hc6 => ?_) (fun hc6 => ?_)
      · skip
        have q6 : (u).toInt ≤ 40 := by have := mc_t_le hc6; simpa using this
        show mm_Wp _ _ _ 22 _ _ _ _
        refine wp_s (i := .iload_n 3) (n := 1) (pc' := 23) (st' := [.int u]) rfl rfl ?_
        refine wp_if (t := 29) (st := []) rfl rfl (fun hc7 => ?_) (fun hc7 => ?_)
        · skip
          have q7 : (u).toInt ≥ 0 := by have := mc_t_ge hc7; simpa using this
          show mm_Wp _ _ _ 29 _ _ _ _
          refine wp_s (i := .aload_n 0) (n := 1) (pc' := 30) (st' := [.ref 0]) rfl rfl ?_
          refine wp_gf (idx := 64) (a := 0) (v := .ref 67) (pc' := 33) rfl rfl hb_0 rfl rfl ?_
          refine wp_s (i := .iload_n 1) (n := 1) (pc' := 34) (st' := [.int 1, .ref 67]) rfl rfl ?_
          refine wp_aa (b := 108) (pc' := 35) rfl (by decide) hb_67 rfl rfl rfl ?_
          refine wp_s (i := .iload_n 2) (n := 1) (pc' := 36) (st' := [.int w, .ref 108]) rfl rfl ?_
          refine wp_s (i := .iload_n 3) (n := 1) (pc' := 37) (st' := [.int u, .int w, .ref 108]) rfl rfl ?_
          refine wp_c (i := .invokevirtual 307) (n := 3) (Dq := 11) (r' := mm_r59) (as := [.ref 108, .int w, .int u]) (rest := []) (ls' := [some (.ref 108), some (.int w), some (.int u)]) rfl rfl rfl ?_
          refine wp_s (i := .aload_n 0) (n := 1) (pc' := 1) (st' := [.ref 108]) rfl rfl ?_
          refine wp_gf (idx := 9) (a := 108) (v := .ref 109) (pc' := 4) rfl rfl hb_108 rfl rfl ?_
          refine wp_s (i := .iconst 0) (n := 1) (pc' := 5) (st' := [.int 0, .ref 109]) rfl rfl ?_
          refine wp_c (i := .invokestatic 19) (n := 3) (Dq := 10) (r' := mm_r194) (as := [.ref 109, .int 0]) (rest := []) (ls' := [some (.ref 109), some (.int 0), none, none]) rfl rfl rfl ?_
          refine wp_x 374 (v := none) (h' := hp_0) (mm_dec (by decide +kernel)) ?_
          show mm_Wp X 11 mm_r59 8 [some (.ref 108), some (.int w), some (.int u)] [] _ _
          refine wp_s (i := .aload_n 0) (n := 1) (pc' := 9) (st' := [.ref 108]) rfl rfl ?_
          refine wp_s (i := .iload_n 1) (n := 1) (pc' := 10) (st' := [.int w, .ref 108]) rfl rfl ?_
          refine wp_pf (idx := 25) (a := 108) (fs' := [.ref 109, .int w, .int (-1)]) (pc' := 13) rfl rfl rfl hb_108 rfl rfl rfl rfl rfl ?_
          refine wp_s (i := .aload_n 0) (n := 1) (pc' := 14) (st' := [.ref 108]) rfl rfl ?_
          refine wp_s (i := .iload_n 2) (n := 1) (pc' := 15) (st' := [.int u, .ref 108]) rfl rfl ?_
          refine wp_pf (idx := 15) (a := 108) (fs' := [.ref 109, .int w, .int u]) (pc' := 18) rfl rfl rfl (mm_ss hb_108) rfl rfl rfl mm_rs2 rfl ?_
          refine wp_r (i := .return_) (n := 1) (v := none) rfl rfl ?_
          show mm_Wp X 12 mm_r98 40 [some (.ref 0), some (.int 1), some (.int w), some (.int u)] [] _ _
          refine wp_s (i := .iconst 1) (n := 1) (pc' := 41) (st' := [.int 1]) rfl rfl ?_
          refine wp_r (i := .ireturn) (n := 1) (v := some (.int 1)) rfl rfl ?_
          refine ⟨1, rfl, ⟨_, (mm_sn rfl hb_114)⟩, ?_⟩
          show mm_Wp X 12 mm_r187 0 [some (.ref 114), some (.int 1), some (.int w), some (.int u), none] [] _ _
          refine wp_s (i := .iload_n 1) (n := 1) (pc' := 1) (st' := [.int 1]) rfl rfl ?_
          refine wp_s (i := .i2l) (n := 1) (pc' := 2) (st' := [.long 1]) rfl rfl ?_
          refine wp_s (i := .lconst 0) (n := 1) (pc' := 3) (st' := [.long 0, .long 1]) rfl rfl ?_
          refine wp_s (i := .ldc2_w 285) (n := 3) (pc' := 6) (st' := [.long 3, .long 0, .long 1]) rfl rfl ?_
          refine wp_c (i := .invokestatic 81) (n := 3) (Dq := 11) (r' := mm_r120) (as := [.long 1, .long 0, .long 3]) (rest := []) (ls' := [some (.long 1), none, some (.long 0), none, some (.long 3), none]) rfl rfl rfl ?_
          refine wp_s (i := .lload_n 0) (n := 1) (pc' := 1) (st' := [.long 1]) rfl rfl ?_
          refine wp_s (i := .lload_n 2) (n := 1) (pc' := 2) (st' := [.long 0, .long 1]) rfl rfl ?_
          refine wp_s (i := .lcmp) (n := 1) (pc' := 3) (st' := [.int 1]) rfl rfl ?_
          refine wp_s (i := .ifCond .lt 14) (n := 3) (pc' := 6) (st' := []) rfl rfl ?_
          refine wp_s (i := .lload_n 0) (n := 1) (pc' := 7) (st' := [.long 1]) rfl rfl ?_
          refine wp_s (i := .lload 4) (n := 2) (pc' := 9) (st' := [.long 3, .long 1]) rfl rfl ?_
          refine wp_s (i := .lcmp) (n := 1) (pc' := 10) (st' := [.int (-1)]) rfl rfl ?_
          refine wp_s (i := .ifCond .gt 7) (n := 3) (pc' := 13) (st' := []) rfl rfl ?_
          refine wp_s (i := .iconst 1) (n := 1) (pc' := 14) (st' := [.int 1]) rfl rfl ?_
          refine wp_s (i := .goto 4) (n := 3) (pc' := 18) (st' := [.int 1]) rfl rfl ?_
          refine wp_r (i := .ireturn) (n := 1) (v := some (.int 1)) rfl rfl ?_
          show mm_Wp X 12 mm_r187 9 [some (.ref 114), some (.int 1), some (.int w), some (.int u), none] [.int 1] _ _
          refine wp_s (i := .ifCond .eq 21) (n := 3) (pc' := 12) (st' := []) rfl rfl ?_
          refine wp_s (i := .iload_n 2) (n := 1) (pc' := 13) (st' := [.int w]) rfl rfl ?_
          refine wp_s (i := .i2l) (n := 1) (pc' := 14) (st' := [.long ((w).toInt64)]) rfl rfl ?_
          refine wp_s (i := .lconst 0) (n := 1) (pc' := 15) (st' := [.long 0, .long ((w).toInt64)]) rfl rfl ?_
          refine wp_s (i := .ldc2_w 198) (n := 3) (pc' := 18) (st' := [.long 2, .long 0, .long ((w).toInt64)]) rfl rfl ?_
          refine wp_c (i := .invokestatic 81) (n := 3) (Dq := 11) (r' := mm_r120) (as := [.long ((w).toInt64), .long 0, .long 2]) (rest := []) (ls' := [some (.long ((w).toInt64)), none, some (.long 0), none, some (.long 2), none]) rfl rfl rfl ?_
          refine wp_s (i := .lload_n 0) (n := 1) (pc' := 1) (st' := [.long ((w).toInt64)]) rfl rfl ?_
          refine wp_s (i := .lload_n 2) (n := 1) (pc' := 2) (st' := [.long 0, .long ((w).toInt64)]) rfl rfl ?_
          refine wp_s (i := .lcmp) (n := 1) (pc' := 3) (st' := [.int (lg_cmp ((w).toInt64) 0)]) rfl rfl ?_
          refine wp_if (t := 17) (st := []) rfl rfl (fun hc8 => ?_) (fun hc8 => ?_)
          · skip
            have q8 : (w).toInt < 0 := by have := lc_t_lt hc8; simpa using this
            exfalso; omega
          · skip
            have q8 : (w).toInt ≥ 0 := by have := lc_f_lt hc8; simpa using this
            show mm_Wp _ _ _ 6 _ _ _ _
            refine wp_s (i := .lload_n 0) (n := 1) (pc' := 7) (st' := [.long ((w).toInt64)]) rfl rfl ?_
            refine wp_s (i := .lload 4) (n := 2) (pc' := 9) (st' := [.long 2, .long ((w).toInt64)]) rfl rfl ?_
            refine wp_s (i := .lcmp) (n := 1) (pc' := 10) (st' := [.int (lg_cmp ((w).toInt64) 2)]) rfl rfl ?_
            refine wp_if (t := 17) (st := []) rfl rfl (fun hc9 => ?_) (fun hc9 => ?_)
            · skip
              have q9 : (w).toInt > 2 := by have := lc_t_gt hc9; simpa using this
              exfalso; omega
            · skip
              have q9 : (w).toInt ≤ 2 := by have := lc_f_gt hc9; simpa using this
              show mm_Wp _ _ _ 13 _ _ _ _
              refine wp_s (i := .iconst 1) (n := 1) (pc' := 14) (st' := [.int 1]) rfl rfl ?_
              refine wp_s (i := .goto 4) (n := 3) (pc' := 18) (st' := [.int 1]) rfl rfl ?_
              refine wp_r (i := .ireturn) (n := 1) (v := some (.int 1)) rfl rfl ?_
              show mm_Wp X 12 mm_r187 21 [some (.ref 114), some (.int 1), some (.int w), some (.int u), none] [.int 1] _ _
              refine wp_s (i := .ifCond .eq 9) (n := 3) (pc' := 24) (st' := []) rfl rfl ?_
              refine wp_s (i := .iload_n 3) (n := 1) (pc' := 25) (st' := [.int u]) rfl rfl ?_
              refine wp_s (i := .bipush 40) (n := 2) (pc' := 27) (st' := [.int 40, .int u]) rfl rfl ?_
              refine wp_ic (t := 32) (st := []) rfl rfl (fun hc10 => ?_) (fun hc10 => ?_)
              · skip
                have q10 : (u).toInt ≤ 40 := by have := mc_t_le hc10; simpa using this
                show mm_Wp _ _ _ 32 _ _ _ _
                refine wp_s (i := .iload_n 3) (n := 1) (pc' := 33) (st' := [.int u]) rfl rfl ?_
                refine wp_if (t := 39) (st := []) rfl rfl (fun hc11 => ?_) (fun hc11 => ?_)
                · skip
                  have q11 : (u).toInt ≥ 0 := by have := mc_t_ge hc11; simpa using this
                  show mm_Wp _ _ _ 39 _ _ _ _
                  refine wp_s (i := .aload_n 0) (n := 1) (pc' := 40) (st' := [.ref 114]) rfl rfl ?_
                  refine wp_gf (idx := 68) (a := 114) (v := .ref 134) (pc' := 43) rfl rfl (mm_sn rfl hb_114) rfl rfl ?_
                  refine wp_s (i := .iload_n 1) (n := 1) (pc' := 44) (st' := [.int 1, .ref 134]) rfl rfl ?_
                  refine wp_s (i := .iload_n 2) (n := 1) (pc' := 45) (st' := [.int w, .int 1, .ref 134]) rfl rfl ?_
                  refine wp_is (l' := (([(-4), (-4), (-4), (-4)]).set 1 w)) (pc' := 46) rfl (mm_sn rfl hb_134) rfl rfl rfl rfl ?_
                  refine wp_s (i := .aload_n 0) (n := 1) (pc' := 47) (st' := [.ref 114]) rfl rfl ?_
                  refine wp_gf (idx := 71) (a := 114) (v := .ref 135) (pc' := 50) rfl rfl (mm_sn rfl (mm_sn rfl hb_114)) rfl rfl ?_
                  refine wp_s (i := .iload_n 1) (n := 1) (pc' := 51) (st' := [.int 1, .ref 135]) rfl rfl ?_
                  refine wp_s (i := .iload_n 3) (n := 1) (pc' := 52) (st' := [.int u, .int 1, .ref 135]) rfl rfl ?_
                  refine wp_is (l' := (([0, 0, 0, 0]).set 1 u)) (pc' := 53) rfl (mm_sn rfl (mm_sn rfl hb_135)) rfl rfl rfl rfl ?_
                  refine wp_s (i := .iconst 0) (n := 1) (pc' := 54) (st' := [.int 0]) rfl rfl ?_
                  refine wp_s (i := .istore 4) (n := 2) (pc' := 56) (ls' := [some (.ref 114), some (.int 1), some (.int w), some (.int u), some (.int 0)]) (st' := []) rfl rfl ?_
                  refine wp_s (i := .iload 4) (n := 2) (pc' := 58) (st' := [.int 0]) rfl rfl ?_
                  refine wp_s (i := .bipush 40) (n := 2) (pc' := 60) (st' := [.int 40, .int 0]) rfl rfl ?_
                  refine wp_s (i := .if_icmp .ge 22) (n := 3) (pc' := 63) (st' := []) rfl rfl ?_
                  refine wp_s (i := .aload_n 0) (n := 1) (pc' := 64) (st' := [.ref 114]) rfl rfl ?_
                  refine wp_gf (idx := 74) (a := 114) (v := .ref 136) (pc' := 67) rfl rfl (mm_sn rfl (mm_sn rfl (mm_sn rfl hb_114))) rfl rfl ?_
                  refine wp_s (i := .bipush 40) (n := 2) (pc' := 69) (st' := [.int 40, .ref 136]) rfl rfl ?_
                  refine wp_s (i := .iload_n 1) (n := 1) (pc' := 70) (st' := [.int 1, .int 40, .ref 136]) rfl rfl ?_
                  refine wp_s (i := .imul) (n := 1) (pc' := 71) (st' := [.int 40, .ref 136]) rfl rfl ?_
                  refine wp_s (i := .iload 4) (n := 2) (pc' := 73) (st' := [.int 0, .int 40, .ref 136]) rfl rfl ?_
                  refine wp_s (i := .iadd) (n := 1) (pc' := 74) (st' := [.int 40, .ref 136]) rfl rfl ?_
                  refine wp_s (i := .iconst 0) (n := 1) (pc' := 75) (st' := [.int 0, .int 40, .ref 136]) rfl rfl ?_
                  refine wp_is (l' := (List.replicate 160 0)) (pc' := 76) rfl (mm_sn rfl (mm_sn rfl (mm_sn rfl hb_136))) rfl rfl (mm_sf (mm_sn rfl (mm_sn rfl (mm_sn rfl hb_136)))) rfl ?_
                  refine wp_s (i := .iinc 4 1) (n := 3) (pc' := 79) (ls' := [some (.ref 114), some (.int 1), some (.int w), some (.int u), some (.int 1)]) (st' := []) rfl rfl ?_
                  refine wp_s (i := .goto (-23)) (n := 3) (pc' := 56) (st' := []) rfl rfl ?_
                  refine wp_s (i := .iload 4) (n := 2) (pc' := 58) (st' := [.int 1]) rfl rfl ?_
                  refine wp_s (i := .bipush 40) (n := 2) (pc' := 60) (st' := [.int 40, .int 1]) rfl rfl ?_
                  refine wp_s (i := .if_icmp .ge 22) (n := 3) (pc' := 63) (st' := []) rfl rfl ?_
                  refine wp_s (i := .aload_n 0) (n := 1) (pc' := 64) (st' := [.ref 114]) rfl rfl ?_
                  refine wp_gf (idx := 74) (a := 114) (v := .ref 136) (pc' := 67) rfl rfl (mm_sn rfl (mm_sn rfl (mm_sn rfl hb_114))) rfl rfl ?_
                  refine wp_s (i := .bipush 40) (n := 2) (pc' := 69) (st' := [.int 40, .ref 136]) rfl rfl ?_
                  refine wp_s (i := .iload_n 1) (n := 1) (pc' := 70) (st' := [.int 1, .int 40, .ref 136]) rfl rfl ?_
                  refine wp_s (i := .imul) (n := 1) (pc' := 71) (st' := [.int 40, .ref 136]) rfl rfl ?_
                  refine wp_s (i := .iload 4) (n := 2) (pc' := 73) (st' := [.int 1, .int 40, .ref 136]) rfl rfl ?_
                  refine wp_s (i := .iadd) (n := 1) (pc' := 74) (st' := [.int 41, .ref 136]) rfl rfl ?_
                  refine wp_s (i := .iconst 0) (n := 1) (pc' := 75) (st' := [.int 0, .int 41, .ref 136]) rfl rfl ?_
                  refine wp_is (l' := (List.replicate 160 0)) (pc' := 76) rfl (mm_sn rfl (mm_sn rfl (mm_sn rfl hb_136))) rfl rfl (mm_sf (mm_sn rfl (mm_sn rfl (mm_sn rfl hb_136)))) rfl ?_
                  refine wp_s (i := .iinc 4 1) (n := 3) (pc' := 79) (ls' := [some (.ref 114), some (.int 1), some (.int w), some (.int u), some (.int 2)]) (st' := []) rfl rfl ?_
                  refine wp_s (i := .goto (-23)) (n := 3) (pc' := 56) (st' := []) rfl rfl ?_
                  refine wp_s (i := .iload 4) (n := 2) (pc' := 58) (st' := [.int 2]) rfl rfl ?_
                  refine wp_s (i := .bipush 40) (n := 2) (pc' := 60) (st' := [.int 40, .int 2]) rfl rfl ?_
                  refine wp_s (i := .if_icmp .ge 22) (n := 3) (pc' := 63) (st' := []) rfl rfl ?_
                  refine wp_s (i := .aload_n 0) (n := 1) (pc' := 64) (st' := [.ref 114]) rfl rfl ?_
                  refine wp_gf (idx := 74) (a := 114) (v := .ref 136) (pc' := 67) rfl rfl (mm_sn rfl (mm_sn rfl (mm_sn rfl hb_114))) rfl rfl ?_
                  refine wp_s (i := .bipush 40) (n := 2) (pc' := 69) (st' := [.int 40, .ref 136]) rfl rfl ?_
                  refine wp_s (i := .iload_n 1) (n := 1) (pc' := 70) (st' := [.int 1, .int 40, .ref 136]) rfl rfl ?_
                  refine wp_s (i := .imul) (n := 1) (pc' := 71) (st' := [.int 40, .ref 136]) rfl rfl ?_
                  refine wp_s (i := .iload 4) (n := 2) (pc' := 73) (st' := [.int 2, .int 40, .ref 136]) rfl rfl ?_
                  refine wp_s (i := .iadd) (n := 1) (pc' := 74) (st' := [.int 42, .ref 136]) rfl rfl ?_
                  refine wp_s (i := .iconst 0) (n := 1) (pc' := 75) (st' := [.int 0, .int 42, .ref 136]) rfl rfl ?_
                  refine wp_is (l' := (List.replicate 160 0)) (pc' := 76) rfl (mm_sn rfl (mm_sn rfl (mm_sn rfl hb_136))) rfl rfl (mm_sf (mm_sn rfl (mm_sn rfl (mm_sn rfl hb_136)))) rfl ?_
                  refine wp_s (i := .iinc 4 1) (n := 3) (pc' := 79) (ls' := [some (.ref 114), some (.int 1), some (.int w), some (.int u), some (.int 3)]) (st' := []) rfl rfl ?_
                  refine wp_s (i := .goto (-23)) (n := 3) (pc' := 56) (st' := []) rfl rfl ?_
                  refine wp_s (i := .iload 4) (n := 2) (pc' := 58) (st' := [.int 3]) rfl rfl ?_
                  refine wp_s (i := .bipush 40) (n := 2) (pc' := 60) (st' := [.int 40, .int 3]) rfl rfl ?_
                  refine wp_s (i := .if_icmp .ge 22) (n := 3) (pc' := 63) (st' := []) rfl rfl ?_
                  refine wp_s (i := .aload_n 0) (n := 1) (pc' := 64) (st' := [.ref 114]) rfl rfl ?_
                  refine wp_gf (idx := 74) (a := 114) (v := .ref 136) (pc' := 67) rfl rfl (mm_sn rfl (mm_sn rfl (mm_sn rfl hb_114))) rfl rfl ?_
                  refine wp_s (i := .bipush 40) (n := 2) (pc' := 69) (st' := [.int 40, .ref 136]) rfl rfl ?_
                  refine wp_s (i := .iload_n 1) (n := 1) (pc' := 70) (st' := [.int 1, .int 40, .ref 136]) rfl rfl ?_
                  refine wp_s (i := .imul) (n := 1) (pc' := 71) (st' := [.int 40, .ref 136]) rfl rfl ?_
                  refine wp_s (i := .iload 4) (n := 2) (pc' := 73) (st' := [.int 3, .int 40, .ref 136]) rfl rfl ?_
                  refine wp_s (i := .iadd) (n := 1) (pc' := 74) (st' := [.int 43, .ref 136]) rfl rfl ?_
                  refine wp_s (i := .iconst 0) (n := 1) (pc' := 75) (st' := [.int 0, .int 43, .ref 136]) rfl rfl ?_
                  refine wp_is (l' := (List.replicate 160 0)) (pc' := 76) rfl (mm_sn rfl (mm_sn rfl (mm_sn rfl hb_136))) rfl rfl (mm_sf (mm_sn rfl (mm_sn rfl (mm_sn rfl hb_136)))) rfl ?_
                  refine wp_s (i := .iinc 4 1) (n := 3) (pc' := 79) (ls' := [some (.ref 114), some (.int 1), some (.int w), some (.int u), some (.int 4)]) (st' := []) rfl rfl ?_
                  refine wp_s (i := .goto (-23)) (n := 3) (pc' := 56) (st' := []) rfl rfl ?_
                  refine wp_s (i := .iload 4) (n := 2) (pc' := 58) (st' := [.int 4]) rfl rfl ?_
                  refine wp_s (i := .bipush 40) (n := 2) (pc' := 60) (st' := [.int 40, .int 4]) rfl rfl ?_
                  refine wp_s (i := .if_icmp .ge 22) (n := 3) (pc' := 63) (st' := []) rfl rfl ?_
                  refine wp_s (i := .aload_n 0) (n := 1) (pc' := 64) (st' := [.ref 114]) rfl rfl ?_
                  refine wp_gf (idx := 74) (a := 114) (v := .ref 136) (pc' := 67) rfl rfl (mm_sn rfl (mm_sn rfl (mm_sn rfl hb_114))) rfl rfl ?_
                  refine wp_s (i := .bipush 40) (n := 2) (pc' := 69) (st' := [.int 40, .ref 136]) rfl rfl ?_
                  refine wp_s (i := .iload_n 1) (n := 1) (pc' := 70) (st' := [.int 1, .int 40, .ref 136]) rfl rfl ?_
                  refine wp_s (i := .imul) (n := 1) (pc' := 71) (st' := [.int 40, .ref 136]) rfl rfl ?_
                  refine wp_s (i := .iload 4) (n := 2) (pc' := 73) (st' := [.int 4, .int 40, .ref 136]) rfl rfl ?_
                  refine wp_s (i := .iadd) (n := 1) (pc' := 74) (st' := [.int 44, .ref 136]) rfl rfl ?_
                  refine wp_s (i := .iconst 0) (n := 1) (pc' := 75) (st' := [.int 0, .int 44, .ref 136]) rfl rfl ?_
                  refine wp_is (l' := (List.replicate 160 0)) (pc' := 76) rfl (mm_sn rfl (mm_sn rfl (mm_sn rfl hb_136))) rfl rfl (mm_sf (mm_sn rfl (mm_sn rfl (mm_sn rfl hb_136)))) rfl ?_
                  refine wp_s (i := .iinc 4 1) (n := 3) (pc' := 79) (ls' := [some (.ref 114), some (.int 1), some (.int w), some (.int u), some (.int 5)]) (st' := []) rfl rfl ?_
                  refine wp_s (i := .goto (-23)) (n := 3) (pc' := 56) (st' := []) rfl rfl ?_
                  refine wp_s (i := .iload 4) (n := 2) (pc' := 58) (st' := [.int 5]) rfl rfl ?_
                  refine wp_s (i := .bipush 40) (n := 2) (pc' := 60) (st' := [.int 40, .int 5]) rfl rfl ?_
                  refine wp_s (i := .if_icmp .ge 22) (n := 3) (pc' := 63) (st' := []) rfl rfl ?_
                  refine wp_s (i := .aload_n 0) (n := 1) (pc' := 64) (st' := [.ref 114]) rfl rfl ?_
                  refine wp_gf (idx := 74) (a := 114) (v := .ref 136) (pc' := 67) rfl rfl (mm_sn rfl (mm_sn rfl (mm_sn rfl hb_114))) rfl rfl ?_
                  refine wp_s (i := .bipush 40) (n := 2) (pc' := 69) (st' := [.int 40, .ref 136]) rfl rfl ?_
                  refine wp_s (i := .iload_n 1) (n := 1) (pc' := 70) (st' := [.int 1, .int 40, .ref 136]) rfl rfl ?_
                  refine wp_s (i := .imul) (n := 1) (pc' := 71) (st' := [.int 40, .ref 136]) rfl rfl ?_
                  refine wp_s (i := .iload 4) (n := 2) (pc' := 73) (st' := [.int 5, .int 40, .ref 136]) rfl rfl ?_
                  refine wp_s (i := .iadd) (n := 1) (pc' := 74) (st' := [.int 45, .ref 136]) rfl rfl ?_
                  refine wp_s (i := .iconst 0) (n := 1) (pc' := 75) (st' := [.int 0, .int 45, .ref 136]) rfl rfl ?_
                  refine wp_is (l' := (List.replicate 160 0)) (pc' := 76) rfl (mm_sn rfl (mm_sn rfl (mm_sn rfl hb_136))) rfl rfl (mm_sf (mm_sn rfl (mm_sn rfl (mm_sn rfl hb_136)))) rfl ?_
                  refine wp_s (i := .iinc 4 1) (n := 3) (pc' := 79) (ls' := [some (.ref 114), some (.int 1), some (.int w), some (.int u), some (.int 6)]) (st' := []) rfl rfl ?_
                  refine wp_s (i := .goto (-23)) (n := 3) (pc' := 56) (st' := []) rfl rfl ?_
                  refine wp_s (i := .iload 4) (n := 2) (pc' := 58) (st' := [.int 6]) rfl rfl ?_
                  refine wp_s (i := .bipush 40) (n := 2) (pc' := 60) (st' := [.int 40, .int 6]) rfl rfl ?_
                  refine wp_s (i := .if_icmp .ge 22) (n := 3) (pc' := 63) (st' := []) rfl rfl ?_
                  refine wp_s (i := .aload_n 0) (n := 1) (pc' := 64) (st' := [.ref 114]) rfl rfl ?_
                  refine wp_gf (idx := 74) (a := 114) (v := .ref 136) (pc' := 67) rfl rfl (mm_sn rfl (mm_sn rfl (mm_sn rfl hb_114))) rfl rfl ?_
                  refine wp_s (i := .bipush 40) (n := 2) (pc' := 69) (st' := [.int 40, .ref 136]) rfl rfl ?_
                  refine wp_s (i := .iload_n 1) (n := 1) (pc' := 70) (st' := [.int 1, .int 40, .ref 136]) rfl rfl ?_
                  refine wp_s (i := .imul) (n := 1) (pc' := 71) (st' := [.int 40, .ref 136]) rfl rfl ?_
                  refine wp_s (i := .iload 4) (n := 2) (pc' := 73) (st' := [.int 6, .int 40, .ref 136]) rfl rfl ?_
                  refine wp_s (i := .iadd) (n := 1) (pc' := 74) (st' := [.int 46, .ref 136]) rfl rfl ?_
                  refine wp_s (i := .iconst 0) (n := 1) (pc' := 75) (st' := [.int 0, .int 46, .ref 136]) rfl rfl ?_
                  refine wp_is (l' := (List.replicate 160 0)) (pc' := 76) rfl (mm_sn rfl (mm_sn rfl (mm_sn rfl hb_136))) rfl rfl (mm_sf (mm_sn rfl (mm_sn rfl (mm_sn rfl hb_136)))) rfl ?_
                  refine wp_s (i := .iinc 4 1) (n := 3) (pc' := 79) (ls' := [some (.ref 114), some (.int 1), some (.int w), some (.int u), some (.int 7)]) (st' := []) rfl rfl ?_
                  refine wp_s (i := .goto (-23)) (n := 3) (pc' := 56) (st' := []) rfl rfl ?_
                  refine wp_s (i := .iload 4) (n := 2) (pc' := 58) (st' := [.int 7]) rfl rfl ?_
                  refine wp_s (i := .bipush 40) (n := 2) (pc' := 60) (st' := [.int 40, .int 7]) rfl rfl ?_
                  refine wp_s (i := .if_icmp .ge 22) (n := 3) (pc' := 63) (st' := []) rfl rfl ?_
                  refine wp_s (i := .aload_n 0) (n := 1) (pc' := 64) (st' := [.ref 114]) rfl rfl ?_
                  refine wp_gf (idx := 74) (a := 114) (v := .ref 136) (pc' := 67) rfl rfl (mm_sn rfl (mm_sn rfl (mm_sn rfl hb_114))) rfl rfl ?_
                  refine wp_s (i := .bipush 40) (n := 2) (pc' := 69) (st' := [.int 40, .ref 136]) rfl rfl ?_
                  refine wp_s (i := .iload_n 1) (n := 1) (pc' := 70) (st' := [.int 1, .int 40, .ref 136]) rfl rfl ?_
                  refine wp_s (i := .imul) (n := 1) (pc' := 71) (st' := [.int 40, .ref 136]) rfl rfl ?_
                  refine wp_s (i := .iload 4) (n := 2) (pc' := 73) (st' := [.int 7, .int 40, .ref 136]) rfl rfl ?_
                  refine wp_s (i := .iadd) (n := 1) (pc' := 74) (st' := [.int 47, .ref 136]) rfl rfl ?_
                  refine wp_s (i := .iconst 0) (n := 1) (pc' := 75) (st' := [.int 0, .int 47, .ref 136]) rfl rfl ?_
                  refine wp_is (l' := (List.replicate 160 0)) (pc' := 76) rfl (mm_sn rfl (mm_sn rfl (mm_sn rfl hb_136))) rfl rfl (mm_sf (mm_sn rfl (mm_sn rfl (mm_sn rfl hb_136)))) rfl ?_
                  refine wp_s (i := .iinc 4 1) (n := 3) (pc' := 79) (ls' := [some (.ref 114), some (.int 1), some (.int w), some (.int u), some (.int 8)]) (st' := []) rfl rfl ?_
                  refine wp_s (i := .goto (-23)) (n := 3) (pc' := 56) (st' := []) rfl rfl ?_
                  refine wp_s (i := .iload 4) (n := 2) (pc' := 58) (st' := [.int 8]) rfl rfl ?_
                  refine wp_s (i := .bipush 40) (n := 2) (pc' := 60) (st' := [.int 40, .int 8]) rfl rfl ?_
                  refine wp_s (i := .if_icmp .ge 22) (n := 3) (pc' := 63) (st' := []) rfl rfl ?_
                  refine wp_s (i := .aload_n 0) (n := 1) (pc' := 64) (st' := [.ref 114]) rfl rfl ?_
                  refine wp_gf (idx := 74) (a := 114) (v := .ref 136) (pc' := 67) rfl rfl (mm_sn rfl (mm_sn rfl (mm_sn rfl hb_114))) rfl rfl ?_
                  refine wp_s (i := .bipush 40) (n := 2) (pc' := 69) (st' := [.int 40, .ref 136]) rfl rfl ?_
                  refine wp_s (i := .iload_n 1) (n := 1) (pc' := 70) (st' := [.int 1, .int 40, .ref 136]) rfl rfl ?_
                  refine wp_s (i := .imul) (n := 1) (pc' := 71) (st' := [.int 40, .ref 136]) rfl rfl ?_
                  refine wp_s (i := .iload 4) (n := 2) (pc' := 73) (st' := [.int 8, .int 40, .ref 136]) rfl rfl ?_
                  refine wp_s (i := .iadd) (n := 1) (pc' := 74) (st' := [.int 48, .ref 136]) rfl rfl ?_
                  refine wp_s (i := .iconst 0) (n := 1) (pc' := 75) (st' := [.int 0, .int 48, .ref 136]) rfl rfl ?_
                  refine wp_is (l' := (List.replicate 160 0)) (pc' := 76) rfl (mm_sn rfl (mm_sn rfl (mm_sn rfl hb_136))) rfl rfl (mm_sf (mm_sn rfl (mm_sn rfl (mm_sn rfl hb_136)))) rfl ?_
                  refine wp_s (i := .iinc 4 1) (n := 3) (pc' := 79) (ls' := [some (.ref 114), some (.int 1), some (.int w), some (.int u), some (.int 9)]) (st' := []) rfl rfl ?_
                  refine wp_s (i := .goto (-23)) (n := 3) (pc' := 56) (st' := []) rfl rfl ?_
                  refine wp_s (i := .iload 4) (n := 2) (pc' := 58) (st' := [.int 9]) rfl rfl ?_
                  refine wp_s (i := .bipush 40) (n := 2) (pc' := 60) (st' := [.int 40, .int 9]) rfl rfl ?_
                  refine wp_s (i := .if_icmp .ge 22) (n := 3) (pc' := 63) (st' := []) rfl rfl ?_
                  refine wp_s (i := .aload_n 0) (n := 1) (pc' := 64) (st' := [.ref 114]) rfl rfl ?_
                  refine wp_gf (idx := 74) (a := 114) (v := .ref 136) (pc' := 67) rfl rfl (mm_sn rfl (mm_sn rfl (mm_sn rfl hb_114))) rfl rfl ?_
                  refine wp_s (i := .bipush 40) (n := 2) (pc' := 69) (st' := [.int 40, .ref 136]) rfl rfl ?_
                  refine wp_s (i := .iload_n 1) (n := 1) (pc' := 70) (st' := [.int 1, .int 40, .ref 136]) rfl rfl ?_
                  refine wp_s (i := .imul) (n := 1) (pc' := 71) (st' := [.int 40, .ref 136]) rfl rfl ?_
                  refine wp_s (i := .iload 4) (n := 2) (pc' := 73) (st' := [.int 9, .int 40, .ref 136]) rfl rfl ?_
                  refine wp_s (i := .iadd) (n := 1) (pc' := 74) (st' := [.int 49, .ref 136]) rfl rfl ?_
                  refine wp_s (i := .iconst 0) (n := 1) (pc' := 75) (st' := [.int 0, .int 49, .ref 136]) rfl rfl ?_
                  refine wp_is (l' := (List.replicate 160 0)) (pc' := 76) rfl (mm_sn rfl (mm_sn rfl (mm_sn rfl hb_136))) rfl rfl (mm_sf (mm_sn rfl (mm_sn rfl (mm_sn rfl hb_136)))) rfl ?_
                  refine wp_s (i := .iinc 4 1) (n := 3) (pc' := 79) (ls' := [some (.ref 114), some (.int 1), some (.int w), some (.int u), some (.int 10)]) (st' := []) rfl rfl ?_
                  refine wp_s (i := .goto (-23)) (n := 3) (pc' := 56) (st' := []) rfl rfl ?_
                  refine wp_s (i := .iload 4) (n := 2) (pc' := 58) (st' := [.int 10]) rfl rfl ?_
                  refine wp_s (i := .bipush 40) (n := 2) (pc' := 60) (st' := [.int 40, .int 10]) rfl rfl ?_
                  refine wp_s (i := .if_icmp .ge 22) (n := 3) (pc' := 63) (st' := []) rfl rfl ?_
                  refine wp_s (i := .aload_n 0) (n := 1) (pc' := 64) (st' := [.ref 114]) rfl rfl ?_
                  refine wp_gf (idx := 74) (a := 114) (v := .ref 136) (pc' := 67) rfl rfl (mm_sn rfl (mm_sn rfl (mm_sn rfl hb_114))) rfl rfl ?_
                  refine wp_s (i := .bipush 40) (n := 2) (pc' := 69) (st' := [.int 40, .ref 136]) rfl rfl ?_
                  refine wp_s (i := .iload_n 1) (n := 1) (pc' := 70) (st' := [.int 1, .int 40, .ref 136]) rfl rfl ?_
                  refine wp_s (i := .imul) (n := 1) (pc' := 71) (st' := [.int 40, .ref 136]) rfl rfl ?_
                  refine wp_s (i := .iload 4) (n := 2) (pc' := 73) (st' := [.int 10, .int 40, .ref 136]) rfl rfl ?_
                  refine wp_s (i := .iadd) (n := 1) (pc' := 74) (st' := [.int 50, .ref 136]) rfl rfl ?_
                  refine wp_s (i := .iconst 0) (n := 1) (pc' := 75) (st' := [.int 0, .int 50, .ref 136]) rfl rfl ?_
                  refine wp_is (l' := (List.replicate 160 0)) (pc' := 76) rfl (mm_sn rfl (mm_sn rfl (mm_sn rfl hb_136))) rfl rfl (mm_sf (mm_sn rfl (mm_sn rfl (mm_sn rfl hb_136)))) rfl ?_
                  refine wp_s (i := .iinc 4 1) (n := 3) (pc' := 79) (ls' := [some (.ref 114), some (.int 1), some (.int w), some (.int u), some (.int 11)]) (st' := []) rfl rfl ?_
                  refine wp_s (i := .goto (-23)) (n := 3) (pc' := 56) (st' := []) rfl rfl ?_
                  refine wp_s (i := .iload 4) (n := 2) (pc' := 58) (st' := [.int 11]) rfl rfl ?_
                  refine wp_s (i := .bipush 40) (n := 2) (pc' := 60) (st' := [.int 40, .int 11]) rfl rfl ?_
                  refine wp_s (i := .if_icmp .ge 22) (n := 3) (pc' := 63) (st' := []) rfl rfl ?_
                  refine wp_s (i := .aload_n 0) (n := 1) (pc' := 64) (st' := [.ref 114]) rfl rfl ?_
                  refine wp_gf (idx := 74) (a := 114) (v := .ref 136) (pc' := 67) rfl rfl (mm_sn rfl (mm_sn rfl (mm_sn rfl hb_114))) rfl rfl ?_
                  refine wp_s (i := .bipush 40) (n := 2) (pc' := 69) (st' := [.int 40, .ref 136]) rfl rfl ?_
                  refine wp_s (i := .iload_n 1) (n := 1) (pc' := 70) (st' := [.int 1, .int 40, .ref 136]) rfl rfl ?_
                  refine wp_s (i := .imul) (n := 1) (pc' := 71) (st' := [.int 40, .ref 136]) rfl rfl ?_
                  refine wp_s (i := .iload 4) (n := 2) (pc' := 73) (st' := [.int 11, .int 40, .ref 136]) rfl rfl ?_
                  refine wp_s (i := .iadd) (n := 1) (pc' := 74) (st' := [.int 51, .ref 136]) rfl rfl ?_
                  refine wp_s (i := .iconst 0) (n := 1) (pc' := 75) (st' := [.int 0, .int 51, .ref 136]) rfl rfl ?_
                  refine wp_is (l' := (List.replicate 160 0)) (pc' := 76) rfl (mm_sn rfl (mm_sn rfl (mm_sn rfl hb_136))) rfl rfl (mm_sf (mm_sn rfl (mm_sn rfl (mm_sn rfl hb_136)))) rfl ?_
                  refine wp_s (i := .iinc 4 1) (n := 3) (pc' := 79) (ls' := [some (.ref 114), some (.int 1), some (.int w), some (.int u), some (.int 12)]) (st' := []) rfl rfl ?_
                  refine wp_s (i := .goto (-23)) (n := 3) (pc' := 56) (st' := []) rfl rfl ?_
                  refine wp_s (i := .iload 4) (n := 2) (pc' := 58) (st' := [.int 12]) rfl rfl ?_
                  refine wp_s (i := .bipush 40) (n := 2) (pc' := 60) (st' := [.int 40, .int 12]) rfl rfl ?_
                  refine wp_s (i := .if_icmp .ge 22) (n := 3) (pc' := 63) (st' := []) rfl rfl ?_
                  refine wp_s (i := .aload_n 0) (n := 1) (pc' := 64) (st' := [.ref 114]) rfl rfl ?_
                  refine wp_gf (idx := 74) (a := 114) (v := .ref 136) (pc' := 67) rfl rfl (mm_sn rfl (mm_sn rfl (mm_sn rfl hb_114))) rfl rfl ?_
                  refine wp_s (i := .bipush 40) (n := 2) (pc' := 69) (st' := [.int 40, .ref 136]) rfl rfl ?_
                  refine wp_s (i := .iload_n 1) (n := 1) (pc' := 70) (st' := [.int 1, .int 40, .ref 136]) rfl rfl ?_
                  refine wp_s (i := .imul) (n := 1) (pc' := 71) (st' := [.int 40, .ref 136]) rfl rfl ?_
                  refine wp_s (i := .iload 4) (n := 2) (pc' := 73) (st' := [.int 12, .int 40, .ref 136]) rfl rfl ?_
                  refine wp_s (i := .iadd) (n := 1) (pc' := 74) (st' := [.int 52, .ref 136]) rfl rfl ?_
                  refine wp_s (i := .iconst 0) (n := 1) (pc' := 75) (st' := [.int 0, .int 52, .ref 136]) rfl rfl ?_
                  refine wp_is (l' := (List.replicate 160 0)) (pc' := 76) rfl (mm_sn rfl (mm_sn rfl (mm_sn rfl hb_136))) rfl rfl (mm_sf (mm_sn rfl (mm_sn rfl (mm_sn rfl hb_136)))) rfl ?_
                  refine wp_s (i := .iinc 4 1) (n := 3) (pc' := 79) (ls' := [some (.ref 114), some (.int 1), some (.int w), some (.int u), some (.int 13)]) (st' := []) rfl rfl ?_
                  refine wp_s (i := .goto (-23)) (n := 3) (pc' := 56) (st' := []) rfl rfl ?_
                  refine wp_s (i := .iload 4) (n := 2) (pc' := 58) (st' := [.int 13]) rfl rfl ?_
                  refine wp_s (i := .bipush 40) (n := 2) (pc' := 60) (st' := [.int 40, .int 13]) rfl rfl ?_
                  refine wp_s (i := .if_icmp .ge 22) (n := 3) (pc' := 63) (st' := []) rfl rfl ?_
                  refine wp_s (i := .aload_n 0) (n := 1) (pc' := 64) (st' := [.ref 114]) rfl rfl ?_
                  refine wp_gf (idx := 74) (a := 114) (v := .ref 136) (pc' := 67) rfl rfl (mm_sn rfl (mm_sn rfl (mm_sn rfl hb_114))) rfl rfl ?_
                  refine wp_s (i := .bipush 40) (n := 2) (pc' := 69) (st' := [.int 40, .ref 136]) rfl rfl ?_
                  refine wp_s (i := .iload_n 1) (n := 1) (pc' := 70) (st' := [.int 1, .int 40, .ref 136]) rfl rfl ?_
                  refine wp_s (i := .imul) (n := 1) (pc' := 71) (st' := [.int 40, .ref 136]) rfl rfl ?_
                  refine wp_s (i := .iload 4) (n := 2) (pc' := 73) (st' := [.int 13, .int 40, .ref 136]) rfl rfl ?_
                  refine wp_s (i := .iadd) (n := 1) (pc' := 74) (st' := [.int 53, .ref 136]) rfl rfl ?_
                  refine wp_s (i := .iconst 0) (n := 1) (pc' := 75) (st' := [.int 0, .int 53, .ref 136]) rfl rfl ?_
                  refine wp_is (l' := (List.replicate 160 0)) (pc' := 76) rfl (mm_sn rfl (mm_sn rfl (mm_sn rfl hb_136))) rfl rfl (mm_sf (mm_sn rfl (mm_sn rfl (mm_sn rfl hb_136)))) rfl ?_
                  refine wp_s (i := .iinc 4 1) (n := 3) (pc' := 79) (ls' := [some (.ref 114), some (.int 1), some (.int w), some (.int u), some (.int 14)]) (st' := []) rfl rfl ?_
                  refine wp_s (i := .goto (-23)) (n := 3) (pc' := 56) (st' := []) rfl rfl ?_
                  refine wp_s (i := .iload 4) (n := 2) (pc' := 58) (st' := [.int 14]) rfl rfl ?_
                  refine wp_s (i := .bipush 40) (n := 2) (pc' := 60) (st' := [.int 40, .int 14]) rfl rfl ?_
                  refine wp_s (i := .if_icmp .ge 22) (n := 3) (pc' := 63) (st' := []) rfl rfl ?_
                  refine wp_s (i := .aload_n 0) (n := 1) (pc' := 64) (st' := [.ref 114]) rfl rfl ?_
                  refine wp_gf (idx := 74) (a := 114) (v := .ref 136) (pc' := 67) rfl rfl (mm_sn rfl (mm_sn rfl (mm_sn rfl hb_114))) rfl rfl ?_
                  refine wp_s (i := .bipush 40) (n := 2) (pc' := 69) (st' := [.int 40, .ref 136]) rfl rfl ?_
                  refine wp_s (i := .iload_n 1) (n := 1) (pc' := 70) (st' := [.int 1, .int 40, .ref 136]) rfl rfl ?_
                  refine wp_s (i := .imul) (n := 1) (pc' := 71) (st' := [.int 40, .ref 136]) rfl rfl ?_
                  refine wp_s (i := .iload 4) (n := 2) (pc' := 73) (st' := [.int 14, .int 40, .ref 136]) rfl rfl ?_
                  refine wp_s (i := .iadd) (n := 1) (pc' := 74) (st' := [.int 54, .ref 136]) rfl rfl ?_
                  refine wp_s (i := .iconst 0) (n := 1) (pc' := 75) (st' := [.int 0, .int 54, .ref 136]) rfl rfl ?_
                  refine wp_is (l' := (List.replicate 160 0)) (pc' := 76) rfl (mm_sn rfl (mm_sn rfl (mm_sn rfl hb_136))) rfl rfl (mm_sf (mm_sn rfl (mm_sn rfl (mm_sn rfl hb_136)))) rfl ?_
                  refine wp_s (i := .iinc 4 1) (n := 3) (pc' := 79) (ls' := [some (.ref 114), some (.int 1), some (.int w), some (.int u), some (.int 15)]) (st' := []) rfl rfl ?_
                  refine wp_s (i := .goto (-23)) (n := 3) (pc' := 56) (st' := []) rfl rfl ?_
                  refine wp_s (i := .iload 4) (n := 2) (pc' := 58) (st' := [.int 15]) rfl rfl ?_
                  refine wp_s (i := .bipush 40) (n := 2) (pc' := 60) (st' := [.int 40, .int 15]) rfl rfl ?_
                  refine wp_s (i := .if_icmp .ge 22) (n := 3) (pc' := 63) (st' := []) rfl rfl ?_
                  refine wp_s (i := .aload_n 0) (n := 1) (pc' := 64) (st' := [.ref 114]) rfl rfl ?_
                  refine wp_gf (idx := 74) (a := 114) (v := .ref 136) (pc' := 67) rfl rfl (mm_sn rfl (mm_sn rfl (mm_sn rfl hb_114))) rfl rfl ?_
                  refine wp_s (i := .bipush 40) (n := 2) (pc' := 69) (st' := [.int 40, .ref 136]) rfl rfl ?_
                  refine wp_s (i := .iload_n 1) (n := 1) (pc' := 70) (st' := [.int 1, .int 40, .ref 136]) rfl rfl ?_
                  refine wp_s (i := .imul) (n := 1) (pc' := 71) (st' := [.int 40, .ref 136]) rfl rfl ?_
                  refine wp_s (i := .iload 4) (n := 2) (pc' := 73) (st' := [.int 15, .int 40, .ref 136]) rfl rfl ?_
                  refine wp_s (i := .iadd) (n := 1) (pc' := 74) (st' := [.int 55, .ref 136]) rfl rfl ?_
                  refine wp_s (i := .iconst 0) (n := 1) (pc' := 75) (st' := [.int 0, .int 55, .ref 136]) rfl rfl ?_
                  refine wp_is (l' := (List.replicate 160 0)) (pc' := 76) rfl (mm_sn rfl (mm_sn rfl (mm_sn rfl hb_136))) rfl rfl (mm_sf (mm_sn rfl (mm_sn rfl (mm_sn rfl hb_136)))) rfl ?_
                  refine wp_s (i := .iinc 4 1) (n := 3) (pc' := 79) (ls' := [some (.ref 114), some (.int 1), some (.int w), some (.int u), some (.int 16)]) (st' := []) rfl rfl ?_
                  refine wp_s (i := .goto (-23)) (n := 3) (pc' := 56) (st' := []) rfl rfl ?_
                  refine wp_s (i := .iload 4) (n := 2) (pc' := 58) (st' := [.int 16]) rfl rfl ?_
                  refine wp_s (i := .bipush 40) (n := 2) (pc' := 60) (st' := [.int 40, .int 16]) rfl rfl ?_
                  refine wp_s (i := .if_icmp .ge 22) (n := 3) (pc' := 63) (st' := []) rfl rfl ?_
                  refine wp_s (i := .aload_n 0) (n := 1) (pc' := 64) (st' := [.ref 114]) rfl rfl ?_
                  refine wp_gf (idx := 74) (a := 114) (v := .ref 136) (pc' := 67) rfl rfl (mm_sn rfl (mm_sn rfl (mm_sn rfl hb_114))) rfl rfl ?_
                  refine wp_s (i := .bipush 40) (n := 2) (pc' := 69) (st' := [.int 40, .ref 136]) rfl rfl ?_
                  refine wp_s (i := .iload_n 1) (n := 1) (pc' := 70) (st' := [.int 1, .int 40, .ref 136]) rfl rfl ?_
                  refine wp_s (i := .imul) (n := 1) (pc' := 71) (st' := [.int 40, .ref 136]) rfl rfl ?_
                  refine wp_s (i := .iload 4) (n := 2) (pc' := 73) (st' := [.int 16, .int 40, .ref 136]) rfl rfl ?_
                  refine wp_s (i := .iadd) (n := 1) (pc' := 74) (st' := [.int 56, .ref 136]) rfl rfl ?_
                  refine wp_s (i := .iconst 0) (n := 1) (pc' := 75) (st' := [.int 0, .int 56, .ref 136]) rfl rfl ?_
                  refine wp_is (l' := (List.replicate 160 0)) (pc' := 76) rfl (mm_sn rfl (mm_sn rfl (mm_sn rfl hb_136))) rfl rfl (mm_sf (mm_sn rfl (mm_sn rfl (mm_sn rfl hb_136)))) rfl ?_
                  refine wp_s (i := .iinc 4 1) (n := 3) (pc' := 79) (ls' := [some (.ref 114), some (.int 1), some (.int w), some (.int u), some (.int 17)]) (st' := []) rfl rfl ?_
                  refine wp_s (i := .goto (-23)) (n := 3) (pc' := 56) (st' := []) rfl rfl ?_
                  refine wp_s (i := .iload 4) (n := 2) (pc' := 58) (st' := [.int 17]) rfl rfl ?_
                  refine wp_s (i := .bipush 40) (n := 2) (pc' := 60) (st' := [.int 40, .int 17]) rfl rfl ?_
                  refine wp_s (i := .if_icmp .ge 22) (n := 3) (pc' := 63) (st' := []) rfl rfl ?_
                  refine wp_s (i := .aload_n 0) (n := 1) (pc' := 64) (st' := [.ref 114]) rfl rfl ?_
                  refine wp_gf (idx := 74) (a := 114) (v := .ref 136) (pc' := 67) rfl rfl (mm_sn rfl (mm_sn rfl (mm_sn rfl hb_114))) rfl rfl ?_
                  refine wp_s (i := .bipush 40) (n := 2) (pc' := 69) (st' := [.int 40, .ref 136]) rfl rfl ?_
                  refine wp_s (i := .iload_n 1) (n := 1) (pc' := 70) (st' := [.int 1, .int 40, .ref 136]) rfl rfl ?_
                  refine wp_s (i := .imul) (n := 1) (pc' := 71) (st' := [.int 40, .ref 136]) rfl rfl ?_
                  refine wp_s (i := .iload 4) (n := 2) (pc' := 73) (st' := [.int 17, .int 40, .ref 136]) rfl rfl ?_
                  refine wp_s (i := .iadd) (n := 1) (pc' := 74) (st' := [.int 57, .ref 136]) rfl rfl ?_
                  refine wp_s (i := .iconst 0) (n := 1) (pc' := 75) (st' := [.int 0, .int 57, .ref 136]) rfl rfl ?_
                  refine wp_is (l' := (List.replicate 160 0)) (pc' := 76) rfl (mm_sn rfl (mm_sn rfl (mm_sn rfl hb_136))) rfl rfl (mm_sf (mm_sn rfl (mm_sn rfl (mm_sn rfl hb_136)))) rfl ?_
                  refine wp_s (i := .iinc 4 1) (n := 3) (pc' := 79) (ls' := [some (.ref 114), some (.int 1), some (.int w), some (.int u), some (.int 18)]) (st' := []) rfl rfl ?_
                  refine wp_s (i := .goto (-23)) (n := 3) (pc' := 56) (st' := []) rfl rfl ?_
                  refine wp_s (i := .iload 4) (n := 2) (pc' := 58) (st' := [.int 18]) rfl rfl ?_
                  refine wp_s (i := .bipush 40) (n := 2) (pc' := 60) (st' := [.int 40, .int 18]) rfl rfl ?_
                  refine wp_s (i := .if_icmp .ge 22) (n := 3) (pc' := 63) (st' := []) rfl rfl ?_
                  refine wp_s (i := .aload_n 0) (n := 1) (pc' := 64) (st' := [.ref 114]) rfl rfl ?_
                  refine wp_gf (idx := 74) (a := 114) (v := .ref 136) (pc' := 67) rfl rfl (mm_sn rfl (mm_sn rfl (mm_sn rfl hb_114))) rfl rfl ?_
                  refine wp_s (i := .bipush 40) (n := 2) (pc' := 69) (st' := [.int 40, .ref 136]) rfl rfl ?_
                  refine wp_s (i := .iload_n 1) (n := 1) (pc' := 70) (st' := [.int 1, .int 40, .ref 136]) rfl rfl ?_
                  refine wp_s (i := .imul) (n := 1) (pc' := 71) (st' := [.int 40, .ref 136]) rfl rfl ?_
                  refine wp_s (i := .iload 4) (n := 2) (pc' := 73) (st' := [.int 18, .int 40, .ref 136]) rfl rfl ?_
                  refine wp_s (i := .iadd) (n := 1) (pc' := 74) (st' := [.int 58, .ref 136]) rfl rfl ?_
                  refine wp_s (i := .iconst 0) (n := 1) (pc' := 75) (st' := [.int 0, .int 58, .ref 136]) rfl rfl ?_
                  refine wp_is (l' := (List.replicate 160 0)) (pc' := 76) rfl (mm_sn rfl (mm_sn rfl (mm_sn rfl hb_136))) rfl rfl (mm_sf (mm_sn rfl (mm_sn rfl (mm_sn rfl hb_136)))) rfl ?_
                  refine wp_s (i := .iinc 4 1) (n := 3) (pc' := 79) (ls' := [some (.ref 114), some (.int 1), some (.int w), some (.int u), some (.int 19)]) (st' := []) rfl rfl ?_
                  refine wp_s (i := .goto (-23)) (n := 3) (pc' := 56) (st' := []) rfl rfl ?_
                  refine wp_s (i := .iload 4) (n := 2) (pc' := 58) (st' := [.int 19]) rfl rfl ?_
                  refine wp_s (i := .bipush 40) (n := 2) (pc' := 60) (st' := [.int 40, .int 19]) rfl rfl ?_
                  refine wp_s (i := .if_icmp .ge 22) (n := 3) (pc' := 63) (st' := []) rfl rfl ?_
                  refine wp_s (i := .aload_n 0) (n := 1) (pc' := 64) (st' := [.ref 114]) rfl rfl ?_
                  refine wp_gf (idx := 74) (a := 114) (v := .ref 136) (pc' := 67) rfl rfl (mm_sn rfl (mm_sn rfl (mm_sn rfl hb_114))) rfl rfl ?_
                  refine wp_s (i := .bipush 40) (n := 2) (pc' := 69) (st' := [.int 40, .ref 136]) rfl rfl ?_
                  refine wp_s (i := .iload_n 1) (n := 1) (pc' := 70) (st' := [.int 1, .int 40, .ref 136]) rfl rfl ?_
                  refine wp_s (i := .imul) (n := 1) (pc' := 71) (st' := [.int 40, .ref 136]) rfl rfl ?_
                  refine wp_s (i := .iload 4) (n := 2) (pc' := 73) (st' := [.int 19, .int 40, .ref 136]) rfl rfl ?_
                  refine wp_s (i := .iadd) (n := 1) (pc' := 74) (st' := [.int 59, .ref 136]) rfl rfl ?_
                  refine wp_s (i := .iconst 0) (n := 1) (pc' := 75) (st' := [.int 0, .int 59, .ref 136]) rfl rfl ?_
                  refine wp_is (l' := (List.replicate 160 0)) (pc' := 76) rfl (mm_sn rfl (mm_sn rfl (mm_sn rfl hb_136))) rfl rfl (mm_sf (mm_sn rfl (mm_sn rfl (mm_sn rfl hb_136)))) rfl ?_
                  refine wp_s (i := .iinc 4 1) (n := 3) (pc' := 79) (ls' := [some (.ref 114), some (.int 1), some (.int w), some (.int u), some (.int 20)]) (st' := []) rfl rfl ?_
                  refine wp_s (i := .goto (-23)) (n := 3) (pc' := 56) (st' := []) rfl rfl ?_
                  refine wp_s (i := .iload 4) (n := 2) (pc' := 58) (st' := [.int 20]) rfl rfl ?_
                  refine wp_s (i := .bipush 40) (n := 2) (pc' := 60) (st' := [.int 40, .int 20]) rfl rfl ?_
                  refine wp_s (i := .if_icmp .ge 22) (n := 3) (pc' := 63) (st' := []) rfl rfl ?_
                  refine wp_s (i := .aload_n 0) (n := 1) (pc' := 64) (st' := [.ref 114]) rfl rfl ?_
                  refine wp_gf (idx := 74) (a := 114) (v := .ref 136) (pc' := 67) rfl rfl (mm_sn rfl (mm_sn rfl (mm_sn rfl hb_114))) rfl rfl ?_
                  refine wp_s (i := .bipush 40) (n := 2) (pc' := 69) (st' := [.int 40, .ref 136]) rfl rfl ?_
                  refine wp_s (i := .iload_n 1) (n := 1) (pc' := 70) (st' := [.int 1, .int 40, .ref 136]) rfl rfl ?_
                  refine wp_s (i := .imul) (n := 1) (pc' := 71) (st' := [.int 40, .ref 136]) rfl rfl ?_
                  refine wp_s (i := .iload 4) (n := 2) (pc' := 73) (st' := [.int 20, .int 40, .ref 136]) rfl rfl ?_
                  refine wp_s (i := .iadd) (n := 1) (pc' := 74) (st' := [.int 60, .ref 136]) rfl rfl ?_
                  refine wp_s (i := .iconst 0) (n := 1) (pc' := 75) (st' := [.int 0, .int 60, .ref 136]) rfl rfl ?_
                  refine wp_is (l' := (List.replicate 160 0)) (pc' := 76) rfl (mm_sn rfl (mm_sn rfl (mm_sn rfl hb_136))) rfl rfl (mm_sf (mm_sn rfl (mm_sn rfl (mm_sn rfl hb_136)))) rfl ?_
                  refine wp_s (i := .iinc 4 1) (n := 3) (pc' := 79) (ls' := [some (.ref 114), some (.int 1), some (.int w), some (.int u), some (.int 21)]) (st' := []) rfl rfl ?_
                  refine wp_s (i := .goto (-23)) (n := 3) (pc' := 56) (st' := []) rfl rfl ?_
                  refine wp_s (i := .iload 4) (n := 2) (pc' := 58) (st' := [.int 21]) rfl rfl ?_
                  refine wp_s (i := .bipush 40) (n := 2) (pc' := 60) (st' := [.int 40, .int 21]) rfl rfl ?_
                  refine wp_s (i := .if_icmp .ge 22) (n := 3) (pc' := 63) (st' := []) rfl rfl ?_
                  refine wp_s (i := .aload_n 0) (n := 1) (pc' := 64) (st' := [.ref 114]) rfl rfl ?_
                  refine wp_gf (idx := 74) (a := 114) (v := .ref 136) (pc' := 67) rfl rfl (mm_sn rfl (mm_sn rfl (mm_sn rfl hb_114))) rfl rfl ?_
                  refine wp_s (i := .bipush 40) (n := 2) (pc' := 69) (st' := [.int 40, .ref 136]) rfl rfl ?_
                  refine wp_s (i := .iload_n 1) (n := 1) (pc' := 70) (st' := [.int 1, .int 40, .ref 136]) rfl rfl ?_
                  refine wp_s (i := .imul) (n := 1) (pc' := 71) (st' := [.int 40, .ref 136]) rfl rfl ?_
                  refine wp_s (i := .iload 4) (n := 2) (pc' := 73) (st' := [.int 21, .int 40, .ref 136]) rfl rfl ?_
                  refine wp_s (i := .iadd) (n := 1) (pc' := 74) (st' := [.int 61, .ref 136]) rfl rfl ?_
                  refine wp_s (i := .iconst 0) (n := 1) (pc' := 75) (st' := [.int 0, .int 61, .ref 136]) rfl rfl ?_
                  refine wp_is (l' := (List.replicate 160 0)) (pc' := 76) rfl (mm_sn rfl (mm_sn rfl (mm_sn rfl hb_136))) rfl rfl (mm_sf (mm_sn rfl (mm_sn rfl (mm_sn rfl hb_136)))) rfl ?_
                  refine wp_s (i := .iinc 4 1) (n := 3) (pc' := 79) (ls' := [some (.ref 114), some (.int 1), some (.int w), some (.int u), some (.int 22)]) (st' := []) rfl rfl ?_
                  refine wp_s (i := .goto (-23)) (n := 3) (pc' := 56) (st' := []) rfl rfl ?_
                  refine wp_s (i := .iload 4) (n := 2) (pc' := 58) (st' := [.int 22]) rfl rfl ?_
                  refine wp_s (i := .bipush 40) (n := 2) (pc' := 60) (st' := [.int 40, .int 22]) rfl rfl ?_
                  refine wp_s (i := .if_icmp .ge 22) (n := 3) (pc' := 63) (st' := []) rfl rfl ?_
                  refine wp_s (i := .aload_n 0) (n := 1) (pc' := 64) (st' := [.ref 114]) rfl rfl ?_
                  refine wp_gf (idx := 74) (a := 114) (v := .ref 136) (pc' := 67) rfl rfl (mm_sn rfl (mm_sn rfl (mm_sn rfl hb_114))) rfl rfl ?_
                  refine wp_s (i := .bipush 40) (n := 2) (pc' := 69) (st' := [.int 40, .ref 136]) rfl rfl ?_
                  refine wp_s (i := .iload_n 1) (n := 1) (pc' := 70) (st' := [.int 1, .int 40, .ref 136]) rfl rfl ?_
                  refine wp_s (i := .imul) (n := 1) (pc' := 71) (st' := [.int 40, .ref 136]) rfl rfl ?_
                  refine wp_s (i := .iload 4) (n := 2) (pc' := 73) (st' := [.int 22, .int 40, .ref 136]) rfl rfl ?_
                  refine wp_s (i := .iadd) (n := 1) (pc' := 74) (st' := [.int 62, .ref 136]) rfl rfl ?_
                  refine wp_s (i := .iconst 0) (n := 1) (pc' := 75) (st' := [.int 0, .int 62, .ref 136]) rfl rfl ?_
                  refine wp_is (l' := (List.replicate 160 0)) (pc' := 76) rfl (mm_sn rfl (mm_sn rfl (mm_sn rfl hb_136))) rfl rfl (mm_sf (mm_sn rfl (mm_sn rfl (mm_sn rfl hb_136)))) rfl ?_
                  refine wp_s (i := .iinc 4 1) (n := 3) (pc' := 79) (ls' := [some (.ref 114), some (.int 1), some (.int w), some (.int u), some (.int 23)]) (st' := []) rfl rfl ?_
                  refine wp_s (i := .goto (-23)) (n := 3) (pc' := 56) (st' := []) rfl rfl ?_
                  refine wp_s (i := .iload 4) (n := 2) (pc' := 58) (st' := [.int 23]) rfl rfl ?_
                  refine wp_s (i := .bipush 40) (n := 2) (pc' := 60) (st' := [.int 40, .int 23]) rfl rfl ?_
                  refine wp_s (i := .if_icmp .ge 22) (n := 3) (pc' := 63) (st' := []) rfl rfl ?_
                  refine wp_s (i := .aload_n 0) (n := 1) (pc' := 64) (st' := [.ref 114]) rfl rfl ?_
                  refine wp_gf (idx := 74) (a := 114) (v := .ref 136) (pc' := 67) rfl rfl (mm_sn rfl (mm_sn rfl (mm_sn rfl hb_114))) rfl rfl ?_
                  refine wp_s (i := .bipush 40) (n := 2) (pc' := 69) (st' := [.int 40, .ref 136]) rfl rfl ?_
                  refine wp_s (i := .iload_n 1) (n := 1) (pc' := 70) (st' := [.int 1, .int 40, .ref 136]) rfl rfl ?_
                  refine wp_s (i := .imul) (n := 1) (pc' := 71) (st' := [.int 40, .ref 136]) rfl rfl ?_
                  refine wp_s (i := .iload 4) (n := 2) (pc' := 73) (st' := [.int 23, .int 40, .ref 136]) rfl rfl ?_
                  refine wp_s (i := .iadd) (n := 1) (pc' := 74) (st' := [.int 63, .ref 136]) rfl rfl ?_
                  refine wp_s (i := .iconst 0) (n := 1) (pc' := 75) (st' := [.int 0, .int 63, .ref 136]) rfl rfl ?_
                  refine wp_is (l' := (List.replicate 160 0)) (pc' := 76) rfl (mm_sn rfl (mm_sn rfl (mm_sn rfl hb_136))) rfl rfl (mm_sf (mm_sn rfl (mm_sn rfl (mm_sn rfl hb_136)))) rfl ?_
                  refine wp_s (i := .iinc 4 1) (n := 3) (pc' := 79) (ls' := [some (.ref 114), some (.int 1), some (.int w), some (.int u), some (.int 24)]) (st' := []) rfl rfl ?_
                  refine wp_s (i := .goto (-23)) (n := 3) (pc' := 56) (st' := []) rfl rfl ?_
                  refine wp_s (i := .iload 4) (n := 2) (pc' := 58) (st' := [.int 24]) rfl rfl ?_
                  refine wp_s (i := .bipush 40) (n := 2) (pc' := 60) (st' := [.int 40, .int 24]) rfl rfl ?_
                  refine wp_s (i := .if_icmp .ge 22) (n := 3) (pc' := 63) (st' := []) rfl rfl ?_
                  refine wp_s (i := .aload_n 0) (n := 1) (pc' := 64) (st' := [.ref 114]) rfl rfl ?_
                  refine wp_gf (idx := 74) (a := 114) (v := .ref 136) (pc' := 67) rfl rfl (mm_sn rfl (mm_sn rfl (mm_sn rfl hb_114))) rfl rfl ?_
                  refine wp_s (i := .bipush 40) (n := 2) (pc' := 69) (st' := [.int 40, .ref 136]) rfl rfl ?_
                  refine wp_s (i := .iload_n 1) (n := 1) (pc' := 70) (st' := [.int 1, .int 40, .ref 136]) rfl rfl ?_
                  refine wp_s (i := .imul) (n := 1) (pc' := 71) (st' := [.int 40, .ref 136]) rfl rfl ?_
                  refine wp_s (i := .iload 4) (n := 2) (pc' := 73) (st' := [.int 24, .int 40, .ref 136]) rfl rfl ?_
                  refine wp_s (i := .iadd) (n := 1) (pc' := 74) (st' := [.int 64, .ref 136]) rfl rfl ?_
                  refine wp_s (i := .iconst 0) (n := 1) (pc' := 75) (st' := [.int 0, .int 64, .ref 136]) rfl rfl ?_
                  refine wp_is (l' := (List.replicate 160 0)) (pc' := 76) rfl (mm_sn rfl (mm_sn rfl (mm_sn rfl hb_136))) rfl rfl (mm_sf (mm_sn rfl (mm_sn rfl (mm_sn rfl hb_136)))) rfl ?_
                  refine wp_s (i := .iinc 4 1) (n := 3) (pc' := 79) (ls' := [some (.ref 114), some (.int 1), some (.int w), some (.int u), some (.int 25)]) (st' := []) rfl rfl ?_
                  refine wp_s (i := .goto (-23)) (n := 3) (pc' := 56) (st' := []) rfl rfl ?_
                  refine wp_s (i := .iload 4) (n := 2) (pc' := 58) (st' := [.int 25]) rfl rfl ?_
                  refine wp_s (i := .bipush 40) (n := 2) (pc' := 60) (st' := [.int 40, .int 25]) rfl rfl ?_
                  refine wp_s (i := .if_icmp .ge 22) (n := 3) (pc' := 63) (st' := []) rfl rfl ?_
                  refine wp_s (i := .aload_n 0) (n := 1) (pc' := 64) (st' := [.ref 114]) rfl rfl ?_
                  refine wp_gf (idx := 74) (a := 114) (v := .ref 136) (pc' := 67) rfl rfl (mm_sn rfl (mm_sn rfl (mm_sn rfl hb_114))) rfl rfl ?_
                  refine wp_s (i := .bipush 40) (n := 2) (pc' := 69) (st' := [.int 40, .ref 136]) rfl rfl ?_
                  refine wp_s (i := .iload_n 1) (n := 1) (pc' := 70) (st' := [.int 1, .int 40, .ref 136]) rfl rfl ?_
                  refine wp_s (i := .imul) (n := 1) (pc' := 71) (st' := [.int 40, .ref 136]) rfl rfl ?_
                  refine wp_s (i := .iload 4) (n := 2) (pc' := 73) (st' := [.int 25, .int 40, .ref 136]) rfl rfl ?_
                  refine wp_s (i := .iadd) (n := 1) (pc' := 74) (st' := [.int 65, .ref 136]) rfl rfl ?_
                  refine wp_s (i := .iconst 0) (n := 1) (pc' := 75) (st' := [.int 0, .int 65, .ref 136]) rfl rfl ?_
                  refine wp_is (l' := (List.replicate 160 0)) (pc' := 76) rfl (mm_sn rfl (mm_sn rfl (mm_sn rfl hb_136))) rfl rfl (mm_sf (mm_sn rfl (mm_sn rfl (mm_sn rfl hb_136)))) rfl ?_
                  refine wp_s (i := .iinc 4 1) (n := 3) (pc' := 79) (ls' := [some (.ref 114), some (.int 1), some (.int w), some (.int u), some (.int 26)]) (st' := []) rfl rfl ?_
                  refine wp_s (i := .goto (-23)) (n := 3) (pc' := 56) (st' := []) rfl rfl ?_
                  refine wp_s (i := .iload 4) (n := 2) (pc' := 58) (st' := [.int 26]) rfl rfl ?_
                  refine wp_s (i := .bipush 40) (n := 2) (pc' := 60) (st' := [.int 40, .int 26]) rfl rfl ?_
                  refine wp_s (i := .if_icmp .ge 22) (n := 3) (pc' := 63) (st' := []) rfl rfl ?_
                  refine wp_s (i := .aload_n 0) (n := 1) (pc' := 64) (st' := [.ref 114]) rfl rfl ?_
                  refine wp_gf (idx := 74) (a := 114) (v := .ref 136) (pc' := 67) rfl rfl (mm_sn rfl (mm_sn rfl (mm_sn rfl hb_114))) rfl rfl ?_
                  refine wp_s (i := .bipush 40) (n := 2) (pc' := 69) (st' := [.int 40, .ref 136]) rfl rfl ?_
                  refine wp_s (i := .iload_n 1) (n := 1) (pc' := 70) (st' := [.int 1, .int 40, .ref 136]) rfl rfl ?_
                  refine wp_s (i := .imul) (n := 1) (pc' := 71) (st' := [.int 40, .ref 136]) rfl rfl ?_
                  refine wp_s (i := .iload 4) (n := 2) (pc' := 73) (st' := [.int 26, .int 40, .ref 136]) rfl rfl ?_
                  refine wp_s (i := .iadd) (n := 1) (pc' := 74) (st' := [.int 66, .ref 136]) rfl rfl ?_
                  refine wp_s (i := .iconst 0) (n := 1) (pc' := 75) (st' := [.int 0, .int 66, .ref 136]) rfl rfl ?_
                  refine wp_is (l' := (List.replicate 160 0)) (pc' := 76) rfl (mm_sn rfl (mm_sn rfl (mm_sn rfl hb_136))) rfl rfl (mm_sf (mm_sn rfl (mm_sn rfl (mm_sn rfl hb_136)))) rfl ?_
                  refine wp_s (i := .iinc 4 1) (n := 3) (pc' := 79) (ls' := [some (.ref 114), some (.int 1), some (.int w), some (.int u), some (.int 27)]) (st' := []) rfl rfl ?_
                  refine wp_s (i := .goto (-23)) (n := 3) (pc' := 56) (st' := []) rfl rfl ?_
                  refine wp_s (i := .iload 4) (n := 2) (pc' := 58) (st' := [.int 27]) rfl rfl ?_
                  refine wp_s (i := .bipush 40) (n := 2) (pc' := 60) (st' := [.int 40, .int 27]) rfl rfl ?_
                  refine wp_s (i := .if_icmp .ge 22) (n := 3) (pc' := 63) (st' := []) rfl rfl ?_
                  refine wp_s (i := .aload_n 0) (n := 1) (pc' := 64) (st' := [.ref 114]) rfl rfl ?_
                  refine wp_gf (idx := 74) (a := 114) (v := .ref 136) (pc' := 67) rfl rfl (mm_sn rfl (mm_sn rfl (mm_sn rfl hb_114))) rfl rfl ?_
                  refine wp_s (i := .bipush 40) (n := 2) (pc' := 69) (st' := [.int 40, .ref 136]) rfl rfl ?_
                  refine wp_s (i := .iload_n 1) (n := 1) (pc' := 70) (st' := [.int 1, .int 40, .ref 136]) rfl rfl ?_
                  refine wp_s (i := .imul) (n := 1) (pc' := 71) (st' := [.int 40, .ref 136]) rfl rfl ?_
                  refine wp_s (i := .iload 4) (n := 2) (pc' := 73) (st' := [.int 27, .int 40, .ref 136]) rfl rfl ?_
                  refine wp_s (i := .iadd) (n := 1) (pc' := 74) (st' := [.int 67, .ref 136]) rfl rfl ?_
                  refine wp_s (i := .iconst 0) (n := 1) (pc' := 75) (st' := [.int 0, .int 67, .ref 136]) rfl rfl ?_
                  refine wp_is (l' := (List.replicate 160 0)) (pc' := 76) rfl (mm_sn rfl (mm_sn rfl (mm_sn rfl hb_136))) rfl rfl (mm_sf (mm_sn rfl (mm_sn rfl (mm_sn rfl hb_136)))) rfl ?_
                  refine wp_s (i := .iinc 4 1) (n := 3) (pc' := 79) (ls' := [some (.ref 114), some (.int 1), some (.int w), some (.int u), some (.int 28)]) (st' := []) rfl rfl ?_
                  refine wp_s (i := .goto (-23)) (n := 3) (pc' := 56) (st' := []) rfl rfl ?_
                  refine wp_s (i := .iload 4) (n := 2) (pc' := 58) (st' := [.int 28]) rfl rfl ?_
                  refine wp_s (i := .bipush 40) (n := 2) (pc' := 60) (st' := [.int 40, .int 28]) rfl rfl ?_
                  refine wp_s (i := .if_icmp .ge 22) (n := 3) (pc' := 63) (st' := []) rfl rfl ?_
                  refine wp_s (i := .aload_n 0) (n := 1) (pc' := 64) (st' := [.ref 114]) rfl rfl ?_
                  refine wp_gf (idx := 74) (a := 114) (v := .ref 136) (pc' := 67) rfl rfl (mm_sn rfl (mm_sn rfl (mm_sn rfl hb_114))) rfl rfl ?_
                  refine wp_s (i := .bipush 40) (n := 2) (pc' := 69) (st' := [.int 40, .ref 136]) rfl rfl ?_
                  refine wp_s (i := .iload_n 1) (n := 1) (pc' := 70) (st' := [.int 1, .int 40, .ref 136]) rfl rfl ?_
                  refine wp_s (i := .imul) (n := 1) (pc' := 71) (st' := [.int 40, .ref 136]) rfl rfl ?_
                  refine wp_s (i := .iload 4) (n := 2) (pc' := 73) (st' := [.int 28, .int 40, .ref 136]) rfl rfl ?_
                  refine wp_s (i := .iadd) (n := 1) (pc' := 74) (st' := [.int 68, .ref 136]) rfl rfl ?_
                  refine wp_s (i := .iconst 0) (n := 1) (pc' := 75) (st' := [.int 0, .int 68, .ref 136]) rfl rfl ?_
                  refine wp_is (l' := (List.replicate 160 0)) (pc' := 76) rfl (mm_sn rfl (mm_sn rfl (mm_sn rfl hb_136))) rfl rfl (mm_sf (mm_sn rfl (mm_sn rfl (mm_sn rfl hb_136)))) rfl ?_
                  refine wp_s (i := .iinc 4 1) (n := 3) (pc' := 79) (ls' := [some (.ref 114), some (.int 1), some (.int w), some (.int u), some (.int 29)]) (st' := []) rfl rfl ?_
                  refine wp_s (i := .goto (-23)) (n := 3) (pc' := 56) (st' := []) rfl rfl ?_
                  refine wp_s (i := .iload 4) (n := 2) (pc' := 58) (st' := [.int 29]) rfl rfl ?_
                  refine wp_s (i := .bipush 40) (n := 2) (pc' := 60) (st' := [.int 40, .int 29]) rfl rfl ?_
                  refine wp_s (i := .if_icmp .ge 22) (n := 3) (pc' := 63) (st' := []) rfl rfl ?_
                  refine wp_s (i := .aload_n 0) (n := 1) (pc' := 64) (st' := [.ref 114]) rfl rfl ?_
                  refine wp_gf (idx := 74) (a := 114) (v := .ref 136) (pc' := 67) rfl rfl (mm_sn rfl (mm_sn rfl (mm_sn rfl hb_114))) rfl rfl ?_
                  refine wp_s (i := .bipush 40) (n := 2) (pc' := 69) (st' := [.int 40, .ref 136]) rfl rfl ?_
                  refine wp_s (i := .iload_n 1) (n := 1) (pc' := 70) (st' := [.int 1, .int 40, .ref 136]) rfl rfl ?_
                  refine wp_s (i := .imul) (n := 1) (pc' := 71) (st' := [.int 40, .ref 136]) rfl rfl ?_
                  refine wp_s (i := .iload 4) (n := 2) (pc' := 73) (st' := [.int 29, .int 40, .ref 136]) rfl rfl ?_
                  refine wp_s (i := .iadd) (n := 1) (pc' := 74) (st' := [.int 69, .ref 136]) rfl rfl ?_
                  refine wp_s (i := .iconst 0) (n := 1) (pc' := 75) (st' := [.int 0, .int 69, .ref 136]) rfl rfl ?_
                  refine wp_is (l' := (List.replicate 160 0)) (pc' := 76) rfl (mm_sn rfl (mm_sn rfl (mm_sn rfl hb_136))) rfl rfl (mm_sf (mm_sn rfl (mm_sn rfl (mm_sn rfl hb_136)))) rfl ?_
                  refine wp_s (i := .iinc 4 1) (n := 3) (pc' := 79) (ls' := [some (.ref 114), some (.int 1), some (.int w), some (.int u), some (.int 30)]) (st' := []) rfl rfl ?_
                  refine wp_s (i := .goto (-23)) (n := 3) (pc' := 56) (st' := []) rfl rfl ?_
                  refine wp_s (i := .iload 4) (n := 2) (pc' := 58) (st' := [.int 30]) rfl rfl ?_
                  refine wp_s (i := .bipush 40) (n := 2) (pc' := 60) (st' := [.int 40, .int 30]) rfl rfl ?_
                  refine wp_s (i := .if_icmp .ge 22) (n := 3) (pc' := 63) (st' := []) rfl rfl ?_
                  refine wp_s (i := .aload_n 0) (n := 1) (pc' := 64) (st' := [.ref 114]) rfl rfl ?_
                  refine wp_gf (idx := 74) (a := 114) (v := .ref 136) (pc' := 67) rfl rfl (mm_sn rfl (mm_sn rfl (mm_sn rfl hb_114))) rfl rfl ?_
                  refine wp_s (i := .bipush 40) (n := 2) (pc' := 69) (st' := [.int 40, .ref 136]) rfl rfl ?_
                  refine wp_s (i := .iload_n 1) (n := 1) (pc' := 70) (st' := [.int 1, .int 40, .ref 136]) rfl rfl ?_
                  refine wp_s (i := .imul) (n := 1) (pc' := 71) (st' := [.int 40, .ref 136]) rfl rfl ?_
                  refine wp_s (i := .iload 4) (n := 2) (pc' := 73) (st' := [.int 30, .int 40, .ref 136]) rfl rfl ?_
                  refine wp_s (i := .iadd) (n := 1) (pc' := 74) (st' := [.int 70, .ref 136]) rfl rfl ?_
                  refine wp_s (i := .iconst 0) (n := 1) (pc' := 75) (st' := [.int 0, .int 70, .ref 136]) rfl rfl ?_
                  refine wp_is (l' := (List.replicate 160 0)) (pc' := 76) rfl (mm_sn rfl (mm_sn rfl (mm_sn rfl hb_136))) rfl rfl (mm_sf (mm_sn rfl (mm_sn rfl (mm_sn rfl hb_136)))) rfl ?_
                  refine wp_s (i := .iinc 4 1) (n := 3) (pc' := 79) (ls' := [some (.ref 114), some (.int 1), some (.int w), some (.int u), some (.int 31)]) (st' := []) rfl rfl ?_
                  refine wp_s (i := .goto (-23)) (n := 3) (pc' := 56) (st' := []) rfl rfl ?_
                  refine wp_s (i := .iload 4) (n := 2) (pc' := 58) (st' := [.int 31]) rfl rfl ?_
                  refine wp_s (i := .bipush 40) (n := 2) (pc' := 60) (st' := [.int 40, .int 31]) rfl rfl ?_
                  refine wp_s (i := .if_icmp .ge 22) (n := 3) (pc' := 63) (st' := []) rfl rfl ?_
                  refine wp_s (i := .aload_n 0) (n := 1) (pc' := 64) (st' := [.ref 114]) rfl rfl ?_
                  refine wp_gf (idx := 74) (a := 114) (v := .ref 136) (pc' := 67) rfl rfl (mm_sn rfl (mm_sn rfl (mm_sn rfl hb_114))) rfl rfl ?_
                  refine wp_s (i := .bipush 40) (n := 2) (pc' := 69) (st' := [.int 40, .ref 136]) rfl rfl ?_
                  refine wp_s (i := .iload_n 1) (n := 1) (pc' := 70) (st' := [.int 1, .int 40, .ref 136]) rfl rfl ?_
                  refine wp_s (i := .imul) (n := 1) (pc' := 71) (st' := [.int 40, .ref 136]) rfl rfl ?_
                  refine wp_s (i := .iload 4) (n := 2) (pc' := 73) (st' := [.int 31, .int 40, .ref 136]) rfl rfl ?_
                  refine wp_s (i := .iadd) (n := 1) (pc' := 74) (st' := [.int 71, .ref 136]) rfl rfl ?_
                  refine wp_s (i := .iconst 0) (n := 1) (pc' := 75) (st' := [.int 0, .int 71, .ref 136]) rfl rfl ?_
                  refine wp_is (l' := (List.replicate 160 0)) (pc' := 76) rfl (mm_sn rfl (mm_sn rfl (mm_sn rfl hb_136))) rfl rfl (mm_sf (mm_sn rfl (mm_sn rfl (mm_sn rfl hb_136)))) rfl ?_
                  refine wp_s (i := .iinc 4 1) (n := 3) (pc' := 79) (ls' := [some (.ref 114), some (.int 1), some (.int w), some (.int u), some (.int 32)]) (st' := []) rfl rfl ?_
                  refine wp_s (i := .goto (-23)) (n := 3) (pc' := 56) (st' := []) rfl rfl ?_
                  refine wp_s (i := .iload 4) (n := 2) (pc' := 58) (st' := [.int 32]) rfl rfl ?_
                  refine wp_s (i := .bipush 40) (n := 2) (pc' := 60) (st' := [.int 40, .int 32]) rfl rfl ?_
                  refine wp_s (i := .if_icmp .ge 22) (n := 3) (pc' := 63) (st' := []) rfl rfl ?_
                  refine wp_s (i := .aload_n 0) (n := 1) (pc' := 64) (st' := [.ref 114]) rfl rfl ?_
                  refine wp_gf (idx := 74) (a := 114) (v := .ref 136) (pc' := 67) rfl rfl (mm_sn rfl (mm_sn rfl (mm_sn rfl hb_114))) rfl rfl ?_
                  refine wp_s (i := .bipush 40) (n := 2) (pc' := 69) (st' := [.int 40, .ref 136]) rfl rfl ?_
                  refine wp_s (i := .iload_n 1) (n := 1) (pc' := 70) (st' := [.int 1, .int 40, .ref 136]) rfl rfl ?_
                  refine wp_s (i := .imul) (n := 1) (pc' := 71) (st' := [.int 40, .ref 136]) rfl rfl ?_
                  refine wp_s (i := .iload 4) (n := 2) (pc' := 73) (st' := [.int 32, .int 40, .ref 136]) rfl rfl ?_
                  refine wp_s (i := .iadd) (n := 1) (pc' := 74) (st' := [.int 72, .ref 136]) rfl rfl ?_
                  refine wp_s (i := .iconst 0) (n := 1) (pc' := 75) (st' := [.int 0, .int 72, .ref 136]) rfl rfl ?_
                  refine wp_is (l' := (List.replicate 160 0)) (pc' := 76) rfl (mm_sn rfl (mm_sn rfl (mm_sn rfl hb_136))) rfl rfl (mm_sf (mm_sn rfl (mm_sn rfl (mm_sn rfl hb_136)))) rfl ?_
                  refine wp_s (i := .iinc 4 1) (n := 3) (pc' := 79) (ls' := [some (.ref 114), some (.int 1), some (.int w), some (.int u), some (.int 33)]) (st' := []) rfl rfl ?_
                  refine wp_s (i := .goto (-23)) (n := 3) (pc' := 56) (st' := []) rfl rfl ?_
                  refine wp_s (i := .iload 4) (n := 2) (pc' := 58) (st' := [.int 33]) rfl rfl ?_
                  refine wp_s (i := .bipush 40) (n := 2) (pc' := 60) (st' := [.int 40, .int 33]) rfl rfl ?_
                  refine wp_s (i := .if_icmp .ge 22) (n := 3) (pc' := 63) (st' := []) rfl rfl ?_
                  refine wp_s (i := .aload_n 0) (n := 1) (pc' := 64) (st' := [.ref 114]) rfl rfl ?_
                  refine wp_gf (idx := 74) (a := 114) (v := .ref 136) (pc' := 67) rfl rfl (mm_sn rfl (mm_sn rfl (mm_sn rfl hb_114))) rfl rfl ?_
                  refine wp_s (i := .bipush 40) (n := 2) (pc' := 69) (st' := [.int 40, .ref 136]) rfl rfl ?_
                  refine wp_s (i := .iload_n 1) (n := 1) (pc' := 70) (st' := [.int 1, .int 40, .ref 136]) rfl rfl ?_
                  refine wp_s (i := .imul) (n := 1) (pc' := 71) (st' := [.int 40, .ref 136]) rfl rfl ?_
                  refine wp_s (i := .iload 4) (n := 2) (pc' := 73) (st' := [.int 33, .int 40, .ref 136]) rfl rfl ?_
                  refine wp_s (i := .iadd) (n := 1) (pc' := 74) (st' := [.int 73, .ref 136]) rfl rfl ?_
                  refine wp_s (i := .iconst 0) (n := 1) (pc' := 75) (st' := [.int 0, .int 73, .ref 136]) rfl rfl ?_
                  refine wp_is (l' := (List.replicate 160 0)) (pc' := 76) rfl (mm_sn rfl (mm_sn rfl (mm_sn rfl hb_136))) rfl rfl (mm_sf (mm_sn rfl (mm_sn rfl (mm_sn rfl hb_136)))) rfl ?_
                  refine wp_s (i := .iinc 4 1) (n := 3) (pc' := 79) (ls' := [some (.ref 114), some (.int 1), some (.int w), some (.int u), some (.int 34)]) (st' := []) rfl rfl ?_
                  refine wp_s (i := .goto (-23)) (n := 3) (pc' := 56) (st' := []) rfl rfl ?_
                  refine wp_s (i := .iload 4) (n := 2) (pc' := 58) (st' := [.int 34]) rfl rfl ?_
                  refine wp_s (i := .bipush 40) (n := 2) (pc' := 60) (st' := [.int 40, .int 34]) rfl rfl ?_
                  refine wp_s (i := .if_icmp .ge 22) (n := 3) (pc' := 63) (st' := []) rfl rfl ?_
                  refine wp_s (i := .aload_n 0) (n := 1) (pc' := 64) (st' := [.ref 114]) rfl rfl ?_
                  refine wp_gf (idx := 74) (a := 114) (v := .ref 136) (pc' := 67) rfl rfl (mm_sn rfl (mm_sn rfl (mm_sn rfl hb_114))) rfl rfl ?_
                  refine wp_s (i := .bipush 40) (n := 2) (pc' := 69) (st' := [.int 40, .ref 136]) rfl rfl ?_
                  refine wp_s (i := .iload_n 1) (n := 1) (pc' := 70) (st' := [.int 1, .int 40, .ref 136]) rfl rfl ?_
                  refine wp_s (i := .imul) (n := 1) (pc' := 71) (st' := [.int 40, .ref 136]) rfl rfl ?_
                  refine wp_s (i := .iload 4) (n := 2) (pc' := 73) (st' := [.int 34, .int 40, .ref 136]) rfl rfl ?_
                  refine wp_s (i := .iadd) (n := 1) (pc' := 74) (st' := [.int 74, .ref 136]) rfl rfl ?_
                  refine wp_s (i := .iconst 0) (n := 1) (pc' := 75) (st' := [.int 0, .int 74, .ref 136]) rfl rfl ?_
                  refine wp_is (l' := (List.replicate 160 0)) (pc' := 76) rfl (mm_sn rfl (mm_sn rfl (mm_sn rfl hb_136))) rfl rfl (mm_sf (mm_sn rfl (mm_sn rfl (mm_sn rfl hb_136)))) rfl ?_
                  refine wp_s (i := .iinc 4 1) (n := 3) (pc' := 79) (ls' := [some (.ref 114), some (.int 1), some (.int w), some (.int u), some (.int 35)]) (st' := []) rfl rfl ?_
                  refine wp_s (i := .goto (-23)) (n := 3) (pc' := 56) (st' := []) rfl rfl ?_
                  refine wp_s (i := .iload 4) (n := 2) (pc' := 58) (st' := [.int 35]) rfl rfl ?_
                  refine wp_s (i := .bipush 40) (n := 2) (pc' := 60) (st' := [.int 40, .int 35]) rfl rfl ?_
                  refine wp_s (i := .if_icmp .ge 22) (n := 3) (pc' := 63) (st' := []) rfl rfl ?_
                  refine wp_s (i := .aload_n 0) (n := 1) (pc' := 64) (st' := [.ref 114]) rfl rfl ?_
                  refine wp_gf (idx := 74) (a := 114) (v := .ref 136) (pc' := 67) rfl rfl (mm_sn rfl (mm_sn rfl (mm_sn rfl hb_114))) rfl rfl ?_
                  refine wp_s (i := .bipush 40) (n := 2) (pc' := 69) (st' := [.int 40, .ref 136]) rfl rfl ?_
                  refine wp_s (i := .iload_n 1) (n := 1) (pc' := 70) (st' := [.int 1, .int 40, .ref 136]) rfl rfl ?_
                  refine wp_s (i := .imul) (n := 1) (pc' := 71) (st' := [.int 40, .ref 136]) rfl rfl ?_
                  refine wp_s (i := .iload 4) (n := 2) (pc' := 73) (st' := [.int 35, .int 40, .ref 136]) rfl rfl ?_
                  refine wp_s (i := .iadd) (n := 1) (pc' := 74) (st' := [.int 75, .ref 136]) rfl rfl ?_
                  refine wp_s (i := .iconst 0) (n := 1) (pc' := 75) (st' := [.int 0, .int 75, .ref 136]) rfl rfl ?_
                  refine wp_is (l' := (List.replicate 160 0)) (pc' := 76) rfl (mm_sn rfl (mm_sn rfl (mm_sn rfl hb_136))) rfl rfl (mm_sf (mm_sn rfl (mm_sn rfl (mm_sn rfl hb_136)))) rfl ?_
                  refine wp_s (i := .iinc 4 1) (n := 3) (pc' := 79) (ls' := [some (.ref 114), some (.int 1), some (.int w), some (.int u), some (.int 36)]) (st' := []) rfl rfl ?_
                  refine wp_s (i := .goto (-23)) (n := 3) (pc' := 56) (st' := []) rfl rfl ?_
                  refine wp_s (i := .iload 4) (n := 2) (pc' := 58) (st' := [.int 36]) rfl rfl ?_
                  refine wp_s (i := .bipush 40) (n := 2) (pc' := 60) (st' := [.int 40, .int 36]) rfl rfl ?_
                  refine wp_s (i := .if_icmp .ge 22) (n := 3) (pc' := 63) (st' := []) rfl rfl ?_
                  refine wp_s (i := .aload_n 0) (n := 1) (pc' := 64) (st' := [.ref 114]) rfl rfl ?_
                  refine wp_gf (idx := 74) (a := 114) (v := .ref 136) (pc' := 67) rfl rfl (mm_sn rfl (mm_sn rfl (mm_sn rfl hb_114))) rfl rfl ?_
                  refine wp_s (i := .bipush 40) (n := 2) (pc' := 69) (st' := [.int 40, .ref 136]) rfl rfl ?_
                  refine wp_s (i := .iload_n 1) (n := 1) (pc' := 70) (st' := [.int 1, .int 40, .ref 136]) rfl rfl ?_
                  refine wp_s (i := .imul) (n := 1) (pc' := 71) (st' := [.int 40, .ref 136]) rfl rfl ?_
                  refine wp_s (i := .iload 4) (n := 2) (pc' := 73) (st' := [.int 36, .int 40, .ref 136]) rfl rfl ?_
                  refine wp_s (i := .iadd) (n := 1) (pc' := 74) (st' := [.int 76, .ref 136]) rfl rfl ?_
                  refine wp_s (i := .iconst 0) (n := 1) (pc' := 75) (st' := [.int 0, .int 76, .ref 136]) rfl rfl ?_
                  refine wp_is (l' := (List.replicate 160 0)) (pc' := 76) rfl (mm_sn rfl (mm_sn rfl (mm_sn rfl hb_136))) rfl rfl (mm_sf (mm_sn rfl (mm_sn rfl (mm_sn rfl hb_136)))) rfl ?_
                  refine wp_s (i := .iinc 4 1) (n := 3) (pc' := 79) (ls' := [some (.ref 114), some (.int 1), some (.int w), some (.int u), some (.int 37)]) (st' := []) rfl rfl ?_
                  refine wp_s (i := .goto (-23)) (n := 3) (pc' := 56) (st' := []) rfl rfl ?_
                  refine wp_s (i := .iload 4) (n := 2) (pc' := 58) (st' := [.int 37]) rfl rfl ?_
                  refine wp_s (i := .bipush 40) (n := 2) (pc' := 60) (st' := [.int 40, .int 37]) rfl rfl ?_
                  refine wp_s (i := .if_icmp .ge 22) (n := 3) (pc' := 63) (st' := []) rfl rfl ?_
                  refine wp_s (i := .aload_n 0) (n := 1) (pc' := 64) (st' := [.ref 114]) rfl rfl ?_
                  refine wp_gf (idx := 74) (a := 114) (v := .ref 136) (pc' := 67) rfl rfl (mm_sn rfl (mm_sn rfl (mm_sn rfl hb_114))) rfl rfl ?_
                  refine wp_s (i := .bipush 40) (n := 2) (pc' := 69) (st' := [.int 40, .ref 136]) rfl rfl ?_
                  refine wp_s (i := .iload_n 1) (n := 1) (pc' := 70) (st' := [.int 1, .int 40, .ref 136]) rfl rfl ?_
                  refine wp_s (i := .imul) (n := 1) (pc' := 71) (st' := [.int 40, .ref 136]) rfl rfl ?_
                  refine wp_s (i := .iload 4) (n := 2) (pc' := 73) (st' := [.int 37, .int 40, .ref 136]) rfl rfl ?_
                  refine wp_s (i := .iadd) (n := 1) (pc' := 74) (st' := [.int 77, .ref 136]) rfl rfl ?_
                  refine wp_s (i := .iconst 0) (n := 1) (pc' := 75) (st' := [.int 0, .int 77, .ref 136]) rfl rfl ?_
                  refine wp_is (l' := (List.replicate 160 0)) (pc' := 76) rfl (mm_sn rfl (mm_sn rfl (mm_sn rfl hb_136))) rfl rfl (mm_sf (mm_sn rfl (mm_sn rfl (mm_sn rfl hb_136)))) rfl ?_
                  refine wp_s (i := .iinc 4 1) (n := 3) (pc' := 79) (ls' := [some (.ref 114), some (.int 1), some (.int w), some (.int u), some (.int 38)]) (st' := []) rfl rfl ?_
                  refine wp_s (i := .goto (-23)) (n := 3) (pc' := 56) (st' := []) rfl rfl ?_
                  refine wp_s (i := .iload 4) (n := 2) (pc' := 58) (st' := [.int 38]) rfl rfl ?_
                  refine wp_s (i := .bipush 40) (n := 2) (pc' := 60) (st' := [.int 40, .int 38]) rfl rfl ?_
                  refine wp_s (i := .if_icmp .ge 22) (n := 3) (pc' := 63) (st' := []) rfl rfl ?_
                  refine wp_s (i := .aload_n 0) (n := 1) (pc' := 64) (st' := [.ref 114]) rfl rfl ?_
                  refine wp_gf (idx := 74) (a := 114) (v := .ref 136) (pc' := 67) rfl rfl (mm_sn rfl (mm_sn rfl (mm_sn rfl hb_114))) rfl rfl ?_
                  refine wp_s (i := .bipush 40) (n := 2) (pc' := 69) (st' := [.int 40, .ref 136]) rfl rfl ?_
                  refine wp_s (i := .iload_n 1) (n := 1) (pc' := 70) (st' := [.int 1, .int 40, .ref 136]) rfl rfl ?_
                  refine wp_s (i := .imul) (n := 1) (pc' := 71) (st' := [.int 40, .ref 136]) rfl rfl ?_
                  refine wp_s (i := .iload 4) (n := 2) (pc' := 73) (st' := [.int 38, .int 40, .ref 136]) rfl rfl ?_
                  refine wp_s (i := .iadd) (n := 1) (pc' := 74) (st' := [.int 78, .ref 136]) rfl rfl ?_
                  refine wp_s (i := .iconst 0) (n := 1) (pc' := 75) (st' := [.int 0, .int 78, .ref 136]) rfl rfl ?_
                  refine wp_is (l' := (List.replicate 160 0)) (pc' := 76) rfl (mm_sn rfl (mm_sn rfl (mm_sn rfl hb_136))) rfl rfl (mm_sf (mm_sn rfl (mm_sn rfl (mm_sn rfl hb_136)))) rfl ?_
                  refine wp_s (i := .iinc 4 1) (n := 3) (pc' := 79) (ls' := [some (.ref 114), some (.int 1), some (.int w), some (.int u), some (.int 39)]) (st' := []) rfl rfl ?_
                  refine wp_s (i := .goto (-23)) (n := 3) (pc' := 56) (st' := []) rfl rfl ?_
                  refine wp_s (i := .iload 4) (n := 2) (pc' := 58) (st' := [.int 39]) rfl rfl ?_
                  refine wp_s (i := .bipush 40) (n := 2) (pc' := 60) (st' := [.int 40, .int 39]) rfl rfl ?_
                  refine wp_s (i := .if_icmp .ge 22) (n := 3) (pc' := 63) (st' := []) rfl rfl ?_
                  refine wp_s (i := .aload_n 0) (n := 1) (pc' := 64) (st' := [.ref 114]) rfl rfl ?_
                  refine wp_gf (idx := 74) (a := 114) (v := .ref 136) (pc' := 67) rfl rfl (mm_sn rfl (mm_sn rfl (mm_sn rfl hb_114))) rfl rfl ?_
                  refine wp_s (i := .bipush 40) (n := 2) (pc' := 69) (st' := [.int 40, .ref 136]) rfl rfl ?_
                  refine wp_s (i := .iload_n 1) (n := 1) (pc' := 70) (st' := [.int 1, .int 40, .ref 136]) rfl rfl ?_
                  refine wp_s (i := .imul) (n := 1) (pc' := 71) (st' := [.int 40, .ref 136]) rfl rfl ?_
                  refine wp_s (i := .iload 4) (n := 2) (pc' := 73) (st' := [.int 39, .int 40, .ref 136]) rfl rfl ?_
                  refine wp_s (i := .iadd) (n := 1) (pc' := 74) (st' := [.int 79, .ref 136]) rfl rfl ?_
                  refine wp_s (i := .iconst 0) (n := 1) (pc' := 75) (st' := [.int 0, .int 79, .ref 136]) rfl rfl ?_
                  refine wp_is (l' := (List.replicate 160 0)) (pc' := 76) rfl (mm_sn rfl (mm_sn rfl (mm_sn rfl hb_136))) rfl rfl (mm_sf (mm_sn rfl (mm_sn rfl (mm_sn rfl hb_136)))) rfl ?_
                  refine wp_s (i := .iinc 4 1) (n := 3) (pc' := 79) (ls' := [some (.ref 114), some (.int 1), some (.int w), some (.int u), some (.int 40)]) (st' := []) rfl rfl ?_
                  refine wp_s (i := .goto (-23)) (n := 3) (pc' := 56) (st' := []) rfl rfl ?_
                  refine wp_s (i := .iload 4) (n := 2) (pc' := 58) (st' := [.int 40]) rfl rfl ?_
                  refine wp_s (i := .bipush 40) (n := 2) (pc' := 60) (st' := [.int 40, .int 40]) rfl rfl ?_
                  refine wp_s (i := .if_icmp .ge 22) (n := 3) (pc' := 82) (st' := []) rfl rfl ?_
                  refine wp_s (i := .iconst 1) (n := 1) (pc' := 83) (st' := [.int 1]) rfl rfl ?_
                  refine wp_r (i := .ireturn) (n := 1) (v := some (.int 1)) rfl rfl ?_
                  exact ⟨rfl, (pk_okS (pk_okS (pk_okS pk_ok0 hb_108 rfl) (mm_sn rfl hb_134) rfl) (mm_sn rfl (mm_sn rfl hb_135)) rfl)⟩
                · skip
                  have q11 : (u).toInt < 0 := by have := mc_f_ge hc11; simpa using this
                  exfalso; omega
              · skip
                have q10 : (u).toInt > 40 := by have := mc_f_le hc10; simpa using this
                exfalso; omega
        · skip
          have q7 : (u).toInt < 0 := by have := mc_f_ge hc7; simpa using this
          show mm_Wp _ _ _ 26 _ _ _ _
          refine wp_s (i := .bipush (-14)) (n := 2) (pc' := 28) (st' := [.int (-14)]) rfl rfl ?_
          refine wp_r (i := .ireturn) (n := 1) (v := some (.int (-14))) rfl rfl ?_
          refine ⟨(-14), rfl, ⟨_, hb_114⟩, ?_⟩
          show mm_Wp X 12 mm_r187 0 [some (.ref 114), some (.int 1), some (.int w), some (.int u), none] [] _ _
          refine wp_s (i := .iload_n 1) (n := 1) (pc' := 1) (st' := [.int 1]) rfl rfl ?_
          refine wp_s (i := .i2l) (n := 1) (pc' := 2) (st' := [.long 1]) rfl rfl ?_
          refine wp_s (i := .lconst 0) (n := 1) (pc' := 3) (st' := [.long 0, .long 1]) rfl rfl ?_
          refine wp_s (i := .ldc2_w 285) (n := 3) (pc' := 6) (st' := [.long 3, .long 0, .long 1]) rfl rfl ?_
          refine wp_c (i := .invokestatic 81) (n := 3) (Dq := 11) (r' := mm_r120) (as := [.long 1, .long 0, .long 3]) (rest := []) (ls' := [some (.long 1), none, some (.long 0), none, some (.long 3), none]) rfl rfl rfl ?_
          refine wp_x 16 (v := some (.int 1)) (h' := hp_0) (mm_dec (by decide +kernel)) ?_
          show mm_Wp X 12 mm_r187 9 [some (.ref 114), some (.int 1), some (.int w), some (.int u), none] [.int 1] _ _
          refine wp_s (i := .ifCond .eq 21) (n := 3) (pc' := 12) (st' := []) rfl rfl ?_
          refine wp_s (i := .iload_n 2) (n := 1) (pc' := 13) (st' := [.int w]) rfl rfl ?_
          refine wp_s (i := .i2l) (n := 1) (pc' := 14) (st' := [.long ((w).toInt64)]) rfl rfl ?_
          refine wp_s (i := .lconst 0) (n := 1) (pc' := 15) (st' := [.long 0, .long ((w).toInt64)]) rfl rfl ?_
          refine wp_s (i := .ldc2_w 198) (n := 3) (pc' := 18) (st' := [.long 2, .long 0, .long ((w).toInt64)]) rfl rfl ?_
          refine wp_c (i := .invokestatic 81) (n := 3) (Dq := 11) (r' := mm_r120) (as := [.long ((w).toInt64), .long 0, .long 2]) (rest := []) (ls' := [some (.long ((w).toInt64)), none, some (.long 0), none, some (.long 2), none]) rfl rfl rfl ?_
          refine wp_s (i := .lload_n 0) (n := 1) (pc' := 1) (st' := [.long ((w).toInt64)]) rfl rfl ?_
          refine wp_s (i := .lload_n 2) (n := 1) (pc' := 2) (st' := [.long 0, .long ((w).toInt64)]) rfl rfl ?_
          refine wp_s (i := .lcmp) (n := 1) (pc' := 3) (st' := [.int (lg_cmp ((w).toInt64) 0)]) rfl rfl ?_
          refine wp_if (t := 17) (st := []) rfl rfl (fun hc12 => ?_) (fun hc12 => ?_)
          · skip
            have q12 : (w).toInt < 0 := by have := lc_t_lt hc12; simpa using this
            exfalso; omega
          · skip
            have q12 : (w).toInt ≥ 0 := by have := lc_f_lt hc12; simpa using this
            show mm_Wp _ _ _ 6 _ _ _ _
            refine wp_s (i := .lload_n 0) (n := 1) (pc' := 7) (st' := [.long ((w).toInt64)]) rfl rfl ?_
            refine wp_s (i := .lload 4) (n := 2) (pc' := 9) (st' := [.long 2, .long ((w).toInt64)]) rfl rfl ?_
            refine wp_s (i := .lcmp) (n := 1) (pc' := 10) (st' := [.int (lg_cmp ((w).toInt64) 2)]) rfl rfl ?_
            refine wp_if (t := 17) (st := []) rfl rfl (fun hc13 => ?_) (fun hc13 => ?_)
            · skip
              have q13 : (w).toInt > 2 := by have := lc_t_gt hc13; simpa using this
              exfalso; omega
            · skip
              have q13 : (w).toInt ≤ 2 := by have := lc_f_gt hc13; simpa using this
              show mm_Wp _ _ _ 13 _ _ _ _
              refine wp_s (i := .iconst 1) (n := 1) (pc' := 14) (st' := [.int 1]) rfl rfl ?_
              refine wp_s (i := .goto 4) (n := 3) (pc' := 18) (st' := [.int 1]) rfl rfl ?_
              refine wp_r (i := .ireturn) (n := 1) (v := some (.int 1)) rfl rfl ?_
              show mm_Wp X 12 mm_r187 21 [some (.ref 114), some (.int 1), some (.int w), some (.int u), none] [.int 1] _ _
              refine wp_s (i := .ifCond .eq 9) (n := 3) (pc' := 24) (st' := []) rfl rfl ?_
              refine wp_s (i := .iload_n 3) (n := 1) (pc' := 25) (st' := [.int u]) rfl rfl ?_
              refine wp_s (i := .bipush 40) (n := 2) (pc' := 27) (st' := [.int 40, .int u]) rfl rfl ?_
              refine wp_ic (t := 32) (st := []) rfl rfl (fun hc14 => ?_) (fun hc14 => ?_)
              · skip
                have q14 : (u).toInt ≤ 40 := by have := mc_t_le hc14; simpa using this
                show mm_Wp _ _ _ 32 _ _ _ _
                refine wp_s (i := .iload_n 3) (n := 1) (pc' := 33) (st' := [.int u]) rfl rfl ?_
                refine wp_if (t := 39) (st := []) rfl rfl (fun hc15 => ?_) (fun hc15 => ?_)
                · skip
                  have q15 : (u).toInt ≥ 0 := by have := mc_t_ge hc15; simpa using this
                  exfalso; omega
                · skip
                  have q15 : (u).toInt < 0 := by have := mc_f_ge hc15; simpa using this
                  show mm_Wp _ _ _ 36 _ _ _ _
                  refine wp_s (i := .bipush (-14)) (n := 2) (pc' := 38) (st' := [.int (-14)]) rfl rfl ?_
                  refine wp_r (i := .ireturn) (n := 1) (v := some (.int (-14))) rfl rfl ?_
                  exact ⟨rfl, pk_ok0⟩
              · skip
                have q14 : (u).toInt > 40 := by have := mc_f_le hc14; simpa using this
                exfalso; omega
      · skip
        have q6 : (u).toInt > 40 := by have := mc_f_le hc6; simpa using this
        show mm_Wp _ _ _ 20 _ _ _ _
        refine wp_s (i := .iconst (-1)) (n := 1) (pc' := 21) (st' := [.int (-1)]) rfl rfl ?_
        refine wp_r (i := .ireturn) (n := 1) (v := some (.int (-1))) rfl rfl ?_
        refine ⟨(-1), rfl, ⟨_, hb_114⟩, ?_⟩
        show mm_Wp X 12 mm_r187 0 [some (.ref 114), some (.int 1), some (.int w), some (.int u), none] [] _ _
        refine wp_s (i := .iload_n 1) (n := 1) (pc' := 1) (st' := [.int 1]) rfl rfl ?_
        refine wp_s (i := .i2l) (n := 1) (pc' := 2) (st' := [.long 1]) rfl rfl ?_
        refine wp_s (i := .lconst 0) (n := 1) (pc' := 3) (st' := [.long 0, .long 1]) rfl rfl ?_
        refine wp_s (i := .ldc2_w 285) (n := 3) (pc' := 6) (st' := [.long 3, .long 0, .long 1]) rfl rfl ?_
        refine wp_c (i := .invokestatic 81) (n := 3) (Dq := 11) (r' := mm_r120) (as := [.long 1, .long 0, .long 3]) (rest := []) (ls' := [some (.long 1), none, some (.long 0), none, some (.long 3), none]) rfl rfl rfl ?_
        refine wp_x 16 (v := some (.int 1)) (h' := hp_0) (mm_dec (by decide +kernel)) ?_
        show mm_Wp X 12 mm_r187 9 [some (.ref 114), some (.int 1), some (.int w), some (.int u), none] [.int 1] _ _
        refine wp_s (i := .ifCond .eq 21) (n := 3) (pc' := 12) (st' := []) rfl rfl ?_
        refine wp_s (i := .iload_n 2) (n := 1) (pc' := 13) (st' := [.int w]) rfl rfl ?_
        refine wp_s (i := .i2l) (n := 1) (pc' := 14) (st' := [.long ((w).toInt64)]) rfl rfl ?_
        refine wp_s (i := .lconst 0) (n := 1) (pc' := 15) (st' := [.long 0, .long ((w).toInt64)]) rfl rfl ?_
        refine wp_s (i := .ldc2_w 198) (n := 3) (pc' := 18) (st' := [.long 2, .long 0, .long ((w).toInt64)]) rfl rfl ?_
        refine wp_c (i := .invokestatic 81) (n := 3) (Dq := 11) (r' := mm_r120) (as := [.long ((w).toInt64), .long 0, .long 2]) (rest := []) (ls' := [some (.long ((w).toInt64)), none, some (.long 0), none, some (.long 2), none]) rfl rfl rfl ?_
        refine wp_s (i := .lload_n 0) (n := 1) (pc' := 1) (st' := [.long ((w).toInt64)]) rfl rfl ?_
        refine wp_s (i := .lload_n 2) (n := 1) (pc' := 2) (st' := [.long 0, .long ((w).toInt64)]) rfl rfl ?_
        refine wp_s (i := .lcmp) (n := 1) (pc' := 3) (st' := [.int (lg_cmp ((w).toInt64) 0)]) rfl rfl ?_
        refine wp_if (t := 17) (st := []) rfl rfl (fun hc16 => ?_) (fun hc16 => ?_)
        · skip
          have q16 : (w).toInt < 0 := by have := lc_t_lt hc16; simpa using this
          exfalso; omega
        · skip
          have q16 : (w).toInt ≥ 0 := by have := lc_f_lt hc16; simpa using this
          show mm_Wp _ _ _ 6 _ _ _ _
          refine wp_s (i := .lload_n 0) (n := 1) (pc' := 7) (st' := [.long ((w).toInt64)]) rfl rfl ?_
          refine wp_s (i := .lload 4) (n := 2) (pc' := 9) (st' := [.long 2, .long ((w).toInt64)]) rfl rfl ?_
          refine wp_s (i := .lcmp) (n := 1) (pc' := 10) (st' := [.int (lg_cmp ((w).toInt64) 2)]) rfl rfl ?_
          refine wp_if (t := 17) (st := []) rfl rfl (fun hc17 => ?_) (fun hc17 => ?_)
          · skip
            have q17 : (w).toInt > 2 := by have := lc_t_gt hc17; simpa using this
            exfalso; omega
          · skip
            have q17 : (w).toInt ≤ 2 := by have := lc_f_gt hc17; simpa using this
            show mm_Wp _ _ _ 13 _ _ _ _
            refine wp_s (i := .iconst 1) (n := 1) (pc' := 14) (st' := [.int 1]) rfl rfl ?_
            refine wp_s (i := .goto 4) (n := 3) (pc' := 18) (st' := [.int 1]) rfl rfl ?_
            refine wp_r (i := .ireturn) (n := 1) (v := some (.int 1)) rfl rfl ?_
            show mm_Wp X 12 mm_r187 21 [some (.ref 114), some (.int 1), some (.int w), some (.int u), none] [.int 1] _ _
            refine wp_s (i := .ifCond .eq 9) (n := 3) (pc' := 24) (st' := []) rfl rfl ?_
            refine wp_s (i := .iload_n 3) (n := 1) (pc' := 25) (st' := [.int u]) rfl rfl ?_
            refine wp_s (i := .bipush 40) (n := 2) (pc' := 27) (st' := [.int 40, .int u]) rfl rfl ?_
            refine wp_ic (t := 32) (st := []) rfl rfl (fun hc18 => ?_) (fun hc18 => ?_)
            · skip
              have q18 : (u).toInt ≤ 40 := by have := mc_t_le hc18; simpa using this
              exfalso; omega
            · skip
              have q18 : (u).toInt > 40 := by have := mc_f_le hc18; simpa using this
              show mm_Wp _ _ _ 30 _ _ _ _
              refine wp_s (i := .iconst (-1)) (n := 1) (pc' := 31) (st' := [.int (-1)]) rfl rfl ?_
              refine wp_r (i := .ireturn) (n := 1) (v := some (.int (-1))) rfl rfl ?_
              exact ⟨rfl, pk_ok0⟩
set_option maxRecDepth 20000 in
set_option maxHeartbeats 4000000 in
theorem pk_33_2 (X : Option (List Int32)) (w u : Int32) : mm_Wp X 12 mm_r98 0 [some (.ref 0), some (.int 2), some (.int w), some (.int u)] [] hp_0 (fun v1 h1 => ∃ x : Int32, v1 = some (.int x) ∧ (∃ fs, h1[114]? = some (.inr (10, fs))) ∧ mm_Wp X 12 mm_r187 0 [some (.ref 114), some (.int 2), some (.int w), some (.int u), none] [] h1 (fun v2 h2 => v2 = some (.int x) ∧ pk_ok h2)) := by
  refine wp_s (i := .iload_n 1) (n := 1) (pc' := 1) (st' := [.int 2]) rfl rfl ?_
  refine wp_c (i := .invokestatic 301) (n := 3) (Dq := 11) (r' := mm_r107) (as := [.int 2]) (rest := []) (ls' := [some (.int 2)]) rfl rfl rfl ?_
  refine wp_x 13 (v := some (.int 1)) (h' := hp_0) (mm_dec (by decide +kernel)) ?_
  show mm_Wp X 12 mm_r98 4 [some (.ref 0), some (.int 2), some (.int w), some (.int u)] [.int 1] _ _
  refine wp_s (i := .ifCond .eq 16) (n := 3) (pc' := 7) (st' := []) rfl rfl ?_
  refine wp_s (i := .iload_n 2) (n := 1) (pc' := 8) (st' := [.int w]) rfl rfl ?_
  refine wp_c (i := .invokestatic 304) (n := 3) (Dq := 11) (r' := mm_r108) (as := [.int w]) (rest := []) (ls' := [some (.int w)]) rfl rfl rfl ?_
  refine wp_s (i := .iload_n 0) (n := 1) (pc' := 1) (st' := [.int w]) rfl rfl ?_
  refine wp_if (t := 13) (st := []) rfl rfl (fun hc1 => ?_) (fun hc1 => ?_)
  · skip
    have q1 : (w).toInt < 0 := by have := mc_t_lt hc1; simpa using this
    show mm_Wp _ _ _ 13 _ _ _ _
    refine wp_s (i := .iconst 0) (n := 1) (pc' := 14) (st' := [.int 0]) rfl rfl ?_
    refine wp_r (i := .ireturn) (n := 1) (v := some (.int 0)) rfl rfl ?_
    show mm_Wp X 12 mm_r98 11 [some (.ref 0), some (.int 2), some (.int w), some (.int u)] [.int 0] _ _
    refine wp_s (i := .ifCond .eq 9) (n := 3) (pc' := 20) (st' := []) rfl rfl ?_
    refine wp_s (i := .iconst (-1)) (n := 1) (pc' := 21) (st' := [.int (-1)]) rfl rfl ?_
    refine wp_r (i := .ireturn) (n := 1) (v := some (.int (-1))) rfl rfl ?_
    refine ⟨(-1), rfl, ⟨_, hb_114⟩, ?_⟩
    show mm_Wp X 12 mm_r187 0 [some (.ref 114), some (.int 2), some (.int w), some (.int u), none] [] _ _
    refine wp_s (i := .iload_n 1) (n := 1) (pc' := 1) (st' := [.int 2]) rfl rfl ?_
    refine wp_s (i := .i2l) (n := 1) (pc' := 2) (st' := [.long 2]) rfl rfl ?_
    refine wp_s (i := .lconst 0) (n := 1) (pc' := 3) (st' := [.long 0, .long 2]) rfl rfl ?_
    refine wp_s (i := .ldc2_w 285) (n := 3) (pc' := 6) (st' := [.long 3, .long 0, .long 2]) rfl rfl ?_
    refine wp_c (i := .invokestatic 81) (n := 3) (Dq := 11) (r' := mm_r120) (as := [.long 2, .long 0, .long 3]) (rest := []) (ls' := [some (.long 2), none, some (.long 0), none, some (.long 3), none]) rfl rfl rfl ?_
    refine wp_x 16 (v := some (.int 1)) (h' := hp_0) (mm_dec (by decide +kernel)) ?_
    show mm_Wp X 12 mm_r187 9 [some (.ref 114), some (.int 2), some (.int w), some (.int u), none] [.int 1] _ _
    refine wp_s (i := .ifCond .eq 21) (n := 3) (pc' := 12) (st' := []) rfl rfl ?_
    refine wp_s (i := .iload_n 2) (n := 1) (pc' := 13) (st' := [.int w]) rfl rfl ?_
    refine wp_s (i := .i2l) (n := 1) (pc' := 14) (st' := [.long ((w).toInt64)]) rfl rfl ?_
    refine wp_s (i := .lconst 0) (n := 1) (pc' := 15) (st' := [.long 0, .long ((w).toInt64)]) rfl rfl ?_
    refine wp_s (i := .ldc2_w 198) (n := 3) (pc' := 18) (st' := [.long 2, .long 0, .long ((w).toInt64)]) rfl rfl ?_
    refine wp_c (i := .invokestatic 81) (n := 3) (Dq := 11) (r' := mm_r120) (as := [.long ((w).toInt64), .long 0, .long 2]) (rest := []) (ls' := [some (.long ((w).toInt64)), none, some (.long 0), none, some (.long 2), none]) rfl rfl rfl ?_
    refine wp_s (i := .lload_n 0) (n := 1) (pc' := 1) (st' := [.long ((w).toInt64)]) rfl rfl ?_
    refine wp_s (i := .lload_n 2) (n := 1) (pc' := 2) (st' := [.long 0, .long ((w).toInt64)]) rfl rfl ?_
    refine wp_s (i := .lcmp) (n := 1) (pc' := 3) (st' := [.int (lg_cmp ((w).toInt64) 0)]) rfl rfl ?_
    refine wp_if (t := 17) (st := []) rfl rfl (fun hc2 => ?_) (fun hc2 => ?_)
    · skip
      have q2 : (w).toInt < 0 := by have := lc_t_lt hc2; simpa using this
      show mm_Wp _ _ _ 17 _ _ _ _
      refine wp_s (i := .iconst 0) (n := 1) (pc' := 18) (st' := [.int 0]) rfl rfl ?_
      refine wp_r (i := .ireturn) (n := 1) (v := some (.int 0)) rfl rfl ?_
      show mm_Wp X 12 mm_r187 21 [some (.ref 114), some (.int 2), some (.int w), some (.int u), none] [.int 0] _ _
      refine wp_s (i := .ifCond .eq 9) (n := 3) (pc' := 30) (st' := []) rfl rfl ?_
      refine wp_s (i := .iconst (-1)) (n := 1) (pc' := 31) (st' := [.int (-1)]) rfl rfl ?_
      refine wp_r (i := .ireturn) (n := 1) (v := some (.int (-1))) rfl rfl ?_
      exact ⟨rfl, pk_ok0⟩
    · skip
      have q2 : (w).toInt ≥ 0 := by have := lc_f_lt hc2; simpa using this
      exfalso; omega
  · skip
    have q1 : (w).toInt ≥ 0 := by have := mc_f_lt hc1; simpa using this
    show mm_Wp _ _ _ 4 _ _ _ _
    refine wp_s (i := .iload_n 0) (n := 1) (pc' := 5) (st' := [.int w]) rfl rfl ?_
    refine wp_s (i := .iconst 3) (n := 1) (pc' := 6) (st' := [.int 3, .int w]) rfl rfl ?_
    refine wp_ic (t := 13) (st := []) rfl rfl (fun hc3 => ?_) (fun hc3 => ?_)
    · skip
      have q3 : (w).toInt ≥ 3 := by have := mc_t_ge hc3; simpa using this
      show mm_Wp _ _ _ 13 _ _ _ _
      refine wp_s (i := .iconst 0) (n := 1) (pc' := 14) (st' := [.int 0]) rfl rfl ?_
      refine wp_r (i := .ireturn) (n := 1) (v := some (.int 0)) rfl rfl ?_
      show mm_Wp X 12 mm_r98 11 [some (.ref 0), some (.int 2), some (.int w), some (.int u)] [.int 0] _ _
      refine wp_s (i := .ifCond .eq 9) (n := 3) (pc' := 20) (st' := []) rfl rfl ?_
      refine wp_s (i := .iconst (-1)) (n := 1) (pc' := 21) (st' := [.int (-1)]) rfl rfl ?_
      refine wp_r (i := .ireturn) (n := 1) (v := some (.int (-1))) rfl rfl ?_
      refine ⟨(-1), rfl, ⟨_, hb_114⟩, ?_⟩
      show mm_Wp X 12 mm_r187 0 [some (.ref 114), some (.int 2), some (.int w), some (.int u), none] [] _ _
      refine wp_s (i := .iload_n 1) (n := 1) (pc' := 1) (st' := [.int 2]) rfl rfl ?_
      refine wp_s (i := .i2l) (n := 1) (pc' := 2) (st' := [.long 2]) rfl rfl ?_
      refine wp_s (i := .lconst 0) (n := 1) (pc' := 3) (st' := [.long 0, .long 2]) rfl rfl ?_
      refine wp_s (i := .ldc2_w 285) (n := 3) (pc' := 6) (st' := [.long 3, .long 0, .long 2]) rfl rfl ?_
      refine wp_c (i := .invokestatic 81) (n := 3) (Dq := 11) (r' := mm_r120) (as := [.long 2, .long 0, .long 3]) (rest := []) (ls' := [some (.long 2), none, some (.long 0), none, some (.long 3), none]) rfl rfl rfl ?_
      refine wp_x 16 (v := some (.int 1)) (h' := hp_0) (mm_dec (by decide +kernel)) ?_
      show mm_Wp X 12 mm_r187 9 [some (.ref 114), some (.int 2), some (.int w), some (.int u), none] [.int 1] _ _
      refine wp_s (i := .ifCond .eq 21) (n := 3) (pc' := 12) (st' := []) rfl rfl ?_
      refine wp_s (i := .iload_n 2) (n := 1) (pc' := 13) (st' := [.int w]) rfl rfl ?_
      refine wp_s (i := .i2l) (n := 1) (pc' := 14) (st' := [.long ((w).toInt64)]) rfl rfl ?_
      refine wp_s (i := .lconst 0) (n := 1) (pc' := 15) (st' := [.long 0, .long ((w).toInt64)]) rfl rfl ?_
      refine wp_s (i := .ldc2_w 198) (n := 3) (pc' := 18) (st' := [.long 2, .long 0, .long ((w).toInt64)]) rfl rfl ?_
      refine wp_c (i := .invokestatic 81) (n := 3) (Dq := 11) (r' := mm_r120) (as := [.long ((w).toInt64), .long 0, .long 2]) (rest := []) (ls' := [some (.long ((w).toInt64)), none, some (.long 0), none, some (.long 2), none]) rfl rfl rfl ?_
      refine wp_s (i := .lload_n 0) (n := 1) (pc' := 1) (st' := [.long ((w).toInt64)]) rfl rfl ?_
      refine wp_s (i := .lload_n 2) (n := 1) (pc' := 2) (st' := [.long 0, .long ((w).toInt64)]) rfl rfl ?_
      refine wp_s (i := .lcmp) (n := 1) (pc' := 3) (st' := [.int (lg_cmp ((w).toInt64) 0)]) rfl rfl ?_
      refine wp_if (t := 17) (st := []) rfl rfl (fun hc4 => ?_) (fun hc4 => ?_)
      · skip
        have q4 : (w).toInt < 0 := by have := lc_t_lt hc4; simpa using this
        exfalso; omega
      · skip
        have q4 : (w).toInt ≥ 0 := by have := lc_f_lt hc4; simpa using this
        show mm_Wp _ _ _ 6 _ _ _ _
        refine wp_s (i := .lload_n 0) (n := 1) (pc' := 7) (st' := [.long ((w).toInt64)]) rfl rfl ?_
        refine wp_s (i := .lload 4) (n := 2) (pc' := 9) (st' := [.long 2, .long ((w).toInt64)]) rfl rfl ?_
        refine wp_s (i := .lcmp) (n := 1) (pc' := 10) (st' := [.int (lg_cmp ((w).toInt64) 2)]) rfl rfl ?_
        refine wp_if (t := 17) (st := []) rfl rfl (fun hc5 => ?_) (fun hc5 => ?_)
        · skip
          have q5 : (w).toInt > 2 := by have := lc_t_gt hc5; simpa using this
          show mm_Wp _ _ _ 17 _ _ _ _
          refine wp_s (i := .iconst 0) (n := 1) (pc' := 18) (st' := [.int 0]) rfl rfl ?_
          refine wp_r (i := .ireturn) (n := 1) (v := some (.int 0)) rfl rfl ?_
          show mm_Wp X 12 mm_r187 21 [some (.ref 114), some (.int 2), some (.int w), some (.int u), none] [.int 0] _ _
          refine wp_s (i := .ifCond .eq 9) (n := 3) (pc' := 30) (st' := []) rfl rfl ?_
          refine wp_s (i := .iconst (-1)) (n := 1) (pc' := 31) (st' := [.int (-1)]) rfl rfl ?_
          refine wp_r (i := .ireturn) (n := 1) (v := some (.int (-1))) rfl rfl ?_
          exact ⟨rfl, pk_ok0⟩
        · skip
          have q5 : (w).toInt ≤ 2 := by have := lc_f_gt hc5; simpa using this
          exfalso; omega
    · skip
      have q3 : (w).toInt < 3 := by have := mc_f_ge hc3; simpa using this
      show mm_Wp _ _ _ 9 _ _ _ _
      refine wp_s (i := .iconst 1) (n := 1) (pc' := 10) (st' := [.int 1]) rfl rfl ?_
      refine wp_s (i := .goto 4) (n := 3) (pc' := 14) (st' := [.int 1]) rfl rfl ?_
      refine wp_r (i := .ireturn) (n := 1) (v := some (.int 1)) rfl rfl ?_
      show mm_Wp X 12 mm_r98 11 [some (.ref 0), some (.int 2), some (.int w), some (.int u)] [.int 1] _ _
      refine wp_s (i := .ifCond .eq 9) (n := 3) (pc' := 14) (st' := []) rfl rfl ?_
      refine wp_s (i := .iload_n 3) (n := 1) (pc' := 15) (st' := [.int u]) rfl rfl ?_
      refine wp_s (i := .bipush 40) (n := 2) (pc' := 17) (st' := [.int 40, .int u]) rfl rfl ?_
      refine wp_ic (t := 22) (st := []) rfl rfl (fun hc6 => ?_) (fun hc6 => ?_)
      · skip
        have q6 : (u).toInt ≤ 40 := by have := mc_t_le hc6; simpa using this
        show mm_Wp _ _ _ 22 _ _ _ _
        refine wp_s (i := .iload_n 3) (n := 1) (pc' := 23) (st' := [.int u]) rfl rfl ?_
        refine wp_if (t := 29) (st := []) rfl rfl (fun hc7 => ?_) (fun hc7 => ?_)
        · skip
          have q7 : (u).toInt ≥ 0 := by have := mc_t_ge hc7; simpa using this
          show mm_Wp _ _ _ 29 _ _ _ _
          refine wp_s (i := .aload_n 0) (n := 1) (pc' := 30) (st' := [.ref 0]) rfl rfl ?_
          refine wp_gf (idx := 64) (a := 0) (v := .ref 67) (pc' := 33) rfl rfl hb_0 rfl rfl ?_
          refine wp_s (i := .iload_n 1) (n := 1) (pc' := 34) (st' := [.int 2, .ref 67]) rfl rfl ?_
          refine wp_aa (b := 110) (pc' := 35) rfl (by decide) hb_67 rfl rfl rfl ?_
          refine wp_s (i := .iload_n 2) (n := 1) (pc' := 36) (st' := [.int w, .ref 110]) rfl rfl ?_
          refine wp_s (i := .iload_n 3) (n := 1) (pc' := 37) (st' := [.int u, .int w, .ref 110]) rfl rfl ?_
          refine wp_c (i := .invokevirtual 307) (n := 3) (Dq := 11) (r' := mm_r59) (as := [.ref 110, .int w, .int u]) (rest := []) (ls' := [some (.ref 110), some (.int w), some (.int u)]) rfl rfl rfl ?_
          refine wp_s (i := .aload_n 0) (n := 1) (pc' := 1) (st' := [.ref 110]) rfl rfl ?_
          refine wp_gf (idx := 9) (a := 110) (v := .ref 111) (pc' := 4) rfl rfl hb_110 rfl rfl ?_
          refine wp_s (i := .iconst 0) (n := 1) (pc' := 5) (st' := [.int 0, .ref 111]) rfl rfl ?_
          refine wp_c (i := .invokestatic 19) (n := 3) (Dq := 10) (r' := mm_r194) (as := [.ref 111, .int 0]) (rest := []) (ls' := [some (.ref 111), some (.int 0), none, none]) rfl rfl rfl ?_
          refine wp_x 374 (v := none) (h' := hp_0) (mm_dec (by decide +kernel)) ?_
          show mm_Wp X 11 mm_r59 8 [some (.ref 110), some (.int w), some (.int u)] [] _ _
          refine wp_s (i := .aload_n 0) (n := 1) (pc' := 9) (st' := [.ref 110]) rfl rfl ?_
          refine wp_s (i := .iload_n 1) (n := 1) (pc' := 10) (st' := [.int w, .ref 110]) rfl rfl ?_
          refine wp_pf (idx := 25) (a := 110) (fs' := [.ref 111, .int w, .int (-1)]) (pc' := 13) rfl rfl rfl hb_110 rfl rfl rfl rfl rfl ?_
          refine wp_s (i := .aload_n 0) (n := 1) (pc' := 14) (st' := [.ref 110]) rfl rfl ?_
          refine wp_s (i := .iload_n 2) (n := 1) (pc' := 15) (st' := [.int u, .ref 110]) rfl rfl ?_
          refine wp_pf (idx := 15) (a := 110) (fs' := [.ref 111, .int w, .int u]) (pc' := 18) rfl rfl rfl (mm_ss hb_110) rfl rfl rfl mm_rs2 rfl ?_
          refine wp_r (i := .return_) (n := 1) (v := none) rfl rfl ?_
          show mm_Wp X 12 mm_r98 40 [some (.ref 0), some (.int 2), some (.int w), some (.int u)] [] _ _
          refine wp_s (i := .iconst 1) (n := 1) (pc' := 41) (st' := [.int 1]) rfl rfl ?_
          refine wp_r (i := .ireturn) (n := 1) (v := some (.int 1)) rfl rfl ?_
          refine ⟨1, rfl, ⟨_, (mm_sn rfl hb_114)⟩, ?_⟩
          show mm_Wp X 12 mm_r187 0 [some (.ref 114), some (.int 2), some (.int w), some (.int u), none] [] _ _
          refine wp_s (i := .iload_n 1) (n := 1) (pc' := 1) (st' := [.int 2]) rfl rfl ?_
          refine wp_s (i := .i2l) (n := 1) (pc' := 2) (st' := [.long 2]) rfl rfl ?_
          refine wp_s (i := .lconst 0) (n := 1) (pc' := 3) (st' := [.long 0, .long 2]) rfl rfl ?_
          refine wp_s (i := .ldc2_w 285) (n := 3) (pc' := 6) (st' := [.long 3, .long 0, .long 2]) rfl rfl ?_
          refine wp_c (i := .invokestatic 81) (n := 3) (Dq := 11) (r' := mm_r120) (as := [.long 2, .long 0, .long 3]) (rest := []) (ls' := [some (.long 2), none, some (.long 0), none, some (.long 3), none]) rfl rfl rfl ?_
          refine wp_s (i := .lload_n 0) (n := 1) (pc' := 1) (st' := [.long 2]) rfl rfl ?_
          refine wp_s (i := .lload_n 2) (n := 1) (pc' := 2) (st' := [.long 0, .long 2]) rfl rfl ?_
          refine wp_s (i := .lcmp) (n := 1) (pc' := 3) (st' := [.int 1]) rfl rfl ?_
          refine wp_s (i := .ifCond .lt 14) (n := 3) (pc' := 6) (st' := []) rfl rfl ?_
          refine wp_s (i := .lload_n 0) (n := 1) (pc' := 7) (st' := [.long 2]) rfl rfl ?_
          refine wp_s (i := .lload 4) (n := 2) (pc' := 9) (st' := [.long 3, .long 2]) rfl rfl ?_
          refine wp_s (i := .lcmp) (n := 1) (pc' := 10) (st' := [.int (-1)]) rfl rfl ?_
          refine wp_s (i := .ifCond .gt 7) (n := 3) (pc' := 13) (st' := []) rfl rfl ?_
          refine wp_s (i := .iconst 1) (n := 1) (pc' := 14) (st' := [.int 1]) rfl rfl ?_
          refine wp_s (i := .goto 4) (n := 3) (pc' := 18) (st' := [.int 1]) rfl rfl ?_
          refine wp_r (i := .ireturn) (n := 1) (v := some (.int 1)) rfl rfl ?_
          show mm_Wp X 12 mm_r187 9 [some (.ref 114), some (.int 2), some (.int w), some (.int u), none] [.int 1] _ _
          refine wp_s (i := .ifCond .eq 21) (n := 3) (pc' := 12) (st' := []) rfl rfl ?_
          refine wp_s (i := .iload_n 2) (n := 1) (pc' := 13) (st' := [.int w]) rfl rfl ?_
          refine wp_s (i := .i2l) (n := 1) (pc' := 14) (st' := [.long ((w).toInt64)]) rfl rfl ?_
          refine wp_s (i := .lconst 0) (n := 1) (pc' := 15) (st' := [.long 0, .long ((w).toInt64)]) rfl rfl ?_
          refine wp_s (i := .ldc2_w 198) (n := 3) (pc' := 18) (st' := [.long 2, .long 0, .long ((w).toInt64)]) rfl rfl ?_
          refine wp_c (i := .invokestatic 81) (n := 3) (Dq := 11) (r' := mm_r120) (as := [.long ((w).toInt64), .long 0, .long 2]) (rest := []) (ls' := [some (.long ((w).toInt64)), none, some (.long 0), none, some (.long 2), none]) rfl rfl rfl ?_
          refine wp_s (i := .lload_n 0) (n := 1) (pc' := 1) (st' := [.long ((w).toInt64)]) rfl rfl ?_
          refine wp_s (i := .lload_n 2) (n := 1) (pc' := 2) (st' := [.long 0, .long ((w).toInt64)]) rfl rfl ?_
          refine wp_s (i := .lcmp) (n := 1) (pc' := 3) (st' := [.int (lg_cmp ((w).toInt64) 0)]) rfl rfl ?_
          refine wp_if (t := 17) (st := []) rfl rfl (fun hc8 => ?_) (fun hc8 => ?_)
          · skip
            have q8 : (w).toInt < 0 := by have := lc_t_lt hc8; simpa using this
            exfalso; omega
          · skip
            have q8 : (w).toInt ≥ 0 := by have := lc_f_lt hc8; simpa using this
            show mm_Wp _ _ _ 6 _ _ _ _
            refine wp_s (i := .lload_n 0) (n := 1) (pc' := 7) (st' := [.long ((w).toInt64)]) rfl rfl ?_
            refine wp_s (i := .lload 4) (n := 2) (pc' := 9) (st' := [.long 2, .long ((w).toInt64)]) rfl rfl ?_
            refine wp_s (i := .lcmp) (n := 1) (pc' := 10) (st' := [.int (lg_cmp ((w).toInt64) 2)]) rfl rfl ?_
            refine wp_if (t := 17) (st := []) rfl rfl (fun hc9 => ?_) (fun hc9 => ?_)
            · skip
              have q9 : (w).toInt > 2 := by have := lc_t_gt hc9; simpa using this
              exfalso; omega
            · skip
              have q9 : (w).toInt ≤ 2 := by have := lc_f_gt hc9; simpa using this
              show mm_Wp _ _ _ 13 _ _ _ _
              refine wp_s (i := .iconst 1) (n := 1) (pc' := 14) (st' := [.int 1]) rfl rfl ?_
              refine wp_s (i := .goto 4) (n := 3) (pc' := 18) (st' := [.int 1]) rfl rfl ?_
              refine wp_r (i := .ireturn) (n := 1) (v := some (.int 1)) rfl rfl ?_
              show mm_Wp X 12 mm_r187 21 [some (.ref 114), some (.int 2), some (.int w), some (.int u), none] [.int 1] _ _
              refine wp_s (i := .ifCond .eq 9) (n := 3) (pc' := 24) (st' := []) rfl rfl ?_
              refine wp_s (i := .iload_n 3) (n := 1) (pc' := 25) (st' := [.int u]) rfl rfl ?_
              refine wp_s (i := .bipush 40) (n := 2) (pc' := 27) (st' := [.int 40, .int u]) rfl rfl ?_
              refine wp_ic (t := 32) (st := []) rfl rfl (fun hc10 => ?_) (fun hc10 => ?_)
              · skip
                have q10 : (u).toInt ≤ 40 := by have := mc_t_le hc10; simpa using this
                show mm_Wp _ _ _ 32 _ _ _ _
                refine wp_s (i := .iload_n 3) (n := 1) (pc' := 33) (st' := [.int u]) rfl rfl ?_
                refine wp_if (t := 39) (st := []) rfl rfl (fun hc11 => ?_) (fun hc11 => ?_)
                · skip
                  have q11 : (u).toInt ≥ 0 := by have := mc_t_ge hc11; simpa using this
                  show mm_Wp _ _ _ 39 _ _ _ _
                  refine wp_s (i := .aload_n 0) (n := 1) (pc' := 40) (st' := [.ref 114]) rfl rfl ?_
                  refine wp_gf (idx := 68) (a := 114) (v := .ref 134) (pc' := 43) rfl rfl (mm_sn rfl hb_114) rfl rfl ?_
                  refine wp_s (i := .iload_n 1) (n := 1) (pc' := 44) (st' := [.int 2, .ref 134]) rfl rfl ?_
                  refine wp_s (i := .iload_n 2) (n := 1) (pc' := 45) (st' := [.int w, .int 2, .ref 134]) rfl rfl ?_
                  refine wp_is (l' := (([(-4), (-4), (-4), (-4)]).set 2 w)) (pc' := 46) rfl (mm_sn rfl hb_134) rfl rfl rfl rfl ?_
                  refine wp_s (i := .aload_n 0) (n := 1) (pc' := 47) (st' := [.ref 114]) rfl rfl ?_
                  refine wp_gf (idx := 71) (a := 114) (v := .ref 135) (pc' := 50) rfl rfl (mm_sn rfl (mm_sn rfl hb_114)) rfl rfl ?_
                  refine wp_s (i := .iload_n 1) (n := 1) (pc' := 51) (st' := [.int 2, .ref 135]) rfl rfl ?_
                  refine wp_s (i := .iload_n 3) (n := 1) (pc' := 52) (st' := [.int u, .int 2, .ref 135]) rfl rfl ?_
                  refine wp_is (l' := (([0, 0, 0, 0]).set 2 u)) (pc' := 53) rfl (mm_sn rfl (mm_sn rfl hb_135)) rfl rfl rfl rfl ?_
                  refine wp_s (i := .iconst 0) (n := 1) (pc' := 54) (st' := [.int 0]) rfl rfl ?_
                  refine wp_s (i := .istore 4) (n := 2) (pc' := 56) (ls' := [some (.ref 114), some (.int 2), some (.int w), some (.int u), some (.int 0)]) (st' := []) rfl rfl ?_
                  refine wp_s (i := .iload 4) (n := 2) (pc' := 58) (st' := [.int 0]) rfl rfl ?_
                  refine wp_s (i := .bipush 40) (n := 2) (pc' := 60) (st' := [.int 40, .int 0]) rfl rfl ?_
                  refine wp_s (i := .if_icmp .ge 22) (n := 3) (pc' := 63) (st' := []) rfl rfl ?_
                  refine wp_s (i := .aload_n 0) (n := 1) (pc' := 64) (st' := [.ref 114]) rfl rfl ?_
                  refine wp_gf (idx := 74) (a := 114) (v := .ref 136) (pc' := 67) rfl rfl (mm_sn rfl (mm_sn rfl (mm_sn rfl hb_114))) rfl rfl ?_
                  refine wp_s (i := .bipush 40) (n := 2) (pc' := 69) (st' := [.int 40, .ref 136]) rfl rfl ?_
                  refine wp_s (i := .iload_n 1) (n := 1) (pc' := 70) (st' := [.int 2, .int 40, .ref 136]) rfl rfl ?_
                  refine wp_s (i := .imul) (n := 1) (pc' := 71) (st' := [.int 80, .ref 136]) rfl rfl ?_
                  refine wp_s (i := .iload 4) (n := 2) (pc' := 73) (st' := [.int 0, .int 80, .ref 136]) rfl rfl ?_
                  refine wp_s (i := .iadd) (n := 1) (pc' := 74) (st' := [.int 80, .ref 136]) rfl rfl ?_
                  refine wp_s (i := .iconst 0) (n := 1) (pc' := 75) (st' := [.int 0, .int 80, .ref 136]) rfl rfl ?_
                  refine wp_is (l' := (List.replicate 160 0)) (pc' := 76) rfl (mm_sn rfl (mm_sn rfl (mm_sn rfl hb_136))) rfl rfl (mm_sf (mm_sn rfl (mm_sn rfl (mm_sn rfl hb_136)))) rfl ?_
                  refine wp_s (i := .iinc 4 1) (n := 3) (pc' := 79) (ls' := [some (.ref 114), some (.int 2), some (.int w), some (.int u), some (.int 1)]) (st' := []) rfl rfl ?_
                  refine wp_s (i := .goto (-23)) (n := 3) (pc' := 56) (st' := []) rfl rfl ?_
                  refine wp_s (i := .iload 4) (n := 2) (pc' := 58) (st' := [.int 1]) rfl rfl ?_
                  refine wp_s (i := .bipush 40) (n := 2) (pc' := 60) (st' := [.int 40, .int 1]) rfl rfl ?_
                  refine wp_s (i := .if_icmp .ge 22) (n := 3) (pc' := 63) (st' := []) rfl rfl ?_
                  refine wp_s (i := .aload_n 0) (n := 1) (pc' := 64) (st' := [.ref 114]) rfl rfl ?_
                  refine wp_gf (idx := 74) (a := 114) (v := .ref 136) (pc' := 67) rfl rfl (mm_sn rfl (mm_sn rfl (mm_sn rfl hb_114))) rfl rfl ?_
                  refine wp_s (i := .bipush 40) (n := 2) (pc' := 69) (st' := [.int 40, .ref 136]) rfl rfl ?_
                  refine wp_s (i := .iload_n 1) (n := 1) (pc' := 70) (st' := [.int 2, .int 40, .ref 136]) rfl rfl ?_
                  refine wp_s (i := .imul) (n := 1) (pc' := 71) (st' := [.int 80, .ref 136]) rfl rfl ?_
                  refine wp_s (i := .iload 4) (n := 2) (pc' := 73) (st' := [.int 1, .int 80, .ref 136]) rfl rfl ?_
                  refine wp_s (i := .iadd) (n := 1) (pc' := 74) (st' := [.int 81, .ref 136]) rfl rfl ?_
                  refine wp_s (i := .iconst 0) (n := 1) (pc' := 75) (st' := [.int 0, .int 81, .ref 136]) rfl rfl ?_
                  refine wp_is (l' := (List.replicate 160 0)) (pc' := 76) rfl (mm_sn rfl (mm_sn rfl (mm_sn rfl hb_136))) rfl rfl (mm_sf (mm_sn rfl (mm_sn rfl (mm_sn rfl hb_136)))) rfl ?_
                  refine wp_s (i := .iinc 4 1) (n := 3) (pc' := 79) (ls' := [some (.ref 114), some (.int 2), some (.int w), some (.int u), some (.int 2)]) (st' := []) rfl rfl ?_
                  refine wp_s (i := .goto (-23)) (n := 3) (pc' := 56) (st' := []) rfl rfl ?_
                  refine wp_s (i := .iload 4) (n := 2) (pc' := 58) (st' := [.int 2]) rfl rfl ?_
                  refine wp_s (i := .bipush 40) (n := 2) (pc' := 60) (st' := [.int 40, .int 2]) rfl rfl ?_
                  refine wp_s (i := .if_icmp .ge 22) (n := 3) (pc' := 63) (st' := []) rfl rfl ?_
                  refine wp_s (i := .aload_n 0) (n := 1) (pc' := 64) (st' := [.ref 114]) rfl rfl ?_
                  refine wp_gf (idx := 74) (a := 114) (v := .ref 136) (pc' := 67) rfl rfl (mm_sn rfl (mm_sn rfl (mm_sn rfl hb_114))) rfl rfl ?_
                  refine wp_s (i := .bipush 40) (n := 2) (pc' := 69) (st' := [.int 40, .ref 136]) rfl rfl ?_
                  refine wp_s (i := .iload_n 1) (n := 1) (pc' := 70) (st' := [.int 2, .int 40, .ref 136]) rfl rfl ?_
                  refine wp_s (i := .imul) (n := 1) (pc' := 71) (st' := [.int 80, .ref 136]) rfl rfl ?_
                  refine wp_s (i := .iload 4) (n := 2) (pc' := 73) (st' := [.int 2, .int 80, .ref 136]) rfl rfl ?_
                  refine wp_s (i := .iadd) (n := 1) (pc' := 74) (st' := [.int 82, .ref 136]) rfl rfl ?_
                  refine wp_s (i := .iconst 0) (n := 1) (pc' := 75) (st' := [.int 0, .int 82, .ref 136]) rfl rfl ?_
                  refine wp_is (l' := (List.replicate 160 0)) (pc' := 76) rfl (mm_sn rfl (mm_sn rfl (mm_sn rfl hb_136))) rfl rfl (mm_sf (mm_sn rfl (mm_sn rfl (mm_sn rfl hb_136)))) rfl ?_
                  refine wp_s (i := .iinc 4 1) (n := 3) (pc' := 79) (ls' := [some (.ref 114), some (.int 2), some (.int w), some (.int u), some (.int 3)]) (st' := []) rfl rfl ?_
                  refine wp_s (i := .goto (-23)) (n := 3) (pc' := 56) (st' := []) rfl rfl ?_
                  refine wp_s (i := .iload 4) (n := 2) (pc' := 58) (st' := [.int 3]) rfl rfl ?_
                  refine wp_s (i := .bipush 40) (n := 2) (pc' := 60) (st' := [.int 40, .int 3]) rfl rfl ?_
                  refine wp_s (i := .if_icmp .ge 22) (n := 3) (pc' := 63) (st' := []) rfl rfl ?_
                  refine wp_s (i := .aload_n 0) (n := 1) (pc' := 64) (st' := [.ref 114]) rfl rfl ?_
                  refine wp_gf (idx := 74) (a := 114) (v := .ref 136) (pc' := 67) rfl rfl (mm_sn rfl (mm_sn rfl (mm_sn rfl hb_114))) rfl rfl ?_
                  refine wp_s (i := .bipush 40) (n := 2) (pc' := 69) (st' := [.int 40, .ref 136]) rfl rfl ?_
                  refine wp_s (i := .iload_n 1) (n := 1) (pc' := 70) (st' := [.int 2, .int 40, .ref 136]) rfl rfl ?_
                  refine wp_s (i := .imul) (n := 1) (pc' := 71) (st' := [.int 80, .ref 136]) rfl rfl ?_
                  refine wp_s (i := .iload 4) (n := 2) (pc' := 73) (st' := [.int 3, .int 80, .ref 136]) rfl rfl ?_
                  refine wp_s (i := .iadd) (n := 1) (pc' := 74) (st' := [.int 83, .ref 136]) rfl rfl ?_
                  refine wp_s (i := .iconst 0) (n := 1) (pc' := 75) (st' := [.int 0, .int 83, .ref 136]) rfl rfl ?_
                  refine wp_is (l' := (List.replicate 160 0)) (pc' := 76) rfl (mm_sn rfl (mm_sn rfl (mm_sn rfl hb_136))) rfl rfl (mm_sf (mm_sn rfl (mm_sn rfl (mm_sn rfl hb_136)))) rfl ?_
                  refine wp_s (i := .iinc 4 1) (n := 3) (pc' := 79) (ls' := [some (.ref 114), some (.int 2), some (.int w), some (.int u), some (.int 4)]) (st' := []) rfl rfl ?_
                  refine wp_s (i := .goto (-23)) (n := 3) (pc' := 56) (st' := []) rfl rfl ?_
                  refine wp_s (i := .iload 4) (n := 2) (pc' := 58) (st' := [.int 4]) rfl rfl ?_
                  refine wp_s (i := .bipush 40) (n := 2) (pc' := 60) (st' := [.int 40, .int 4]) rfl rfl ?_
                  refine wp_s (i := .if_icmp .ge 22) (n := 3) (pc' := 63) (st' := []) rfl rfl ?_
                  refine wp_s (i := .aload_n 0) (n := 1) (pc' := 64) (st' := [.ref 114]) rfl rfl ?_
                  refine wp_gf (idx := 74) (a := 114) (v := .ref 136) (pc' := 67) rfl rfl (mm_sn rfl (mm_sn rfl (mm_sn rfl hb_114))) rfl rfl ?_
                  refine wp_s (i := .bipush 40) (n := 2) (pc' := 69) (st' := [.int 40, .ref 136]) rfl rfl ?_
                  refine wp_s (i := .iload_n 1) (n := 1) (pc' := 70) (st' := [.int 2, .int 40, .ref 136]) rfl rfl ?_
                  refine wp_s (i := .imul) (n := 1) (pc' := 71) (st' := [.int 80, .ref 136]) rfl rfl ?_
                  refine wp_s (i := .iload 4) (n := 2) (pc' := 73) (st' := [.int 4, .int 80, .ref 136]) rfl rfl ?_
                  refine wp_s (i := .iadd) (n := 1) (pc' := 74) (st' := [.int 84, .ref 136]) rfl rfl ?_
                  refine wp_s (i := .iconst 0) (n := 1) (pc' := 75) (st' := [.int 0, .int 84, .ref 136]) rfl rfl ?_
                  refine wp_is (l' := (List.replicate 160 0)) (pc' := 76) rfl (mm_sn rfl (mm_sn rfl (mm_sn rfl hb_136))) rfl rfl (mm_sf (mm_sn rfl (mm_sn rfl (mm_sn rfl hb_136)))) rfl ?_
                  refine wp_s (i := .iinc 4 1) (n := 3) (pc' := 79) (ls' := [some (.ref 114), some (.int 2), some (.int w), some (.int u), some (.int 5)]) (st' := []) rfl rfl ?_
                  refine wp_s (i := .goto (-23)) (n := 3) (pc' := 56) (st' := []) rfl rfl ?_
                  refine wp_s (i := .iload 4) (n := 2) (pc' := 58) (st' := [.int 5]) rfl rfl ?_
                  refine wp_s (i := .bipush 40) (n := 2) (pc' := 60) (st' := [.int 40, .int 5]) rfl rfl ?_
                  refine wp_s (i := .if_icmp .ge 22) (n := 3) (pc' := 63) (st' := []) rfl rfl ?_
                  refine wp_s (i := .aload_n 0) (n := 1) (pc' := 64) (st' := [.ref 114]) rfl rfl ?_
                  refine wp_gf (idx := 74) (a := 114) (v := .ref 136) (pc' := 67) rfl rfl (mm_sn rfl (mm_sn rfl (mm_sn rfl hb_114))) rfl rfl ?_
                  refine wp_s (i := .bipush 40) (n := 2) (pc' := 69) (st' := [.int 40, .ref 136]) rfl rfl ?_
                  refine wp_s (i := .iload_n 1) (n := 1) (pc' := 70) (st' := [.int 2, .int 40, .ref 136]) rfl rfl ?_
                  refine wp_s (i := .imul) (n := 1) (pc' := 71) (st' := [.int 80, .ref 136]) rfl rfl ?_
                  refine wp_s (i := .iload 4) (n := 2) (pc' := 73) (st' := [.int 5, .int 80, .ref 136]) rfl rfl ?_
                  refine wp_s (i := .iadd) (n := 1) (pc' := 74) (st' := [.int 85, .ref 136]) rfl rfl ?_
                  refine wp_s (i := .iconst 0) (n := 1) (pc' := 75) (st' := [.int 0, .int 85, .ref 136]) rfl rfl ?_
                  refine wp_is (l' := (List.replicate 160 0)) (pc' := 76) rfl (mm_sn rfl (mm_sn rfl (mm_sn rfl hb_136))) rfl rfl (mm_sf (mm_sn rfl (mm_sn rfl (mm_sn rfl hb_136)))) rfl ?_
                  refine wp_s (i := .iinc 4 1) (n := 3) (pc' := 79) (ls' := [some (.ref 114), some (.int 2), some (.int w), some (.int u), some (.int 6)]) (st' := []) rfl rfl ?_
                  refine wp_s (i := .goto (-23)) (n := 3) (pc' := 56) (st' := []) rfl rfl ?_
                  refine wp_s (i := .iload 4) (n := 2) (pc' := 58) (st' := [.int 6]) rfl rfl ?_
                  refine wp_s (i := .bipush 40) (n := 2) (pc' := 60) (st' := [.int 40, .int 6]) rfl rfl ?_
                  refine wp_s (i := .if_icmp .ge 22) (n := 3) (pc' := 63) (st' := []) rfl rfl ?_
                  refine wp_s (i := .aload_n 0) (n := 1) (pc' := 64) (st' := [.ref 114]) rfl rfl ?_
                  refine wp_gf (idx := 74) (a := 114) (v := .ref 136) (pc' := 67) rfl rfl (mm_sn rfl (mm_sn rfl (mm_sn rfl hb_114))) rfl rfl ?_
                  refine wp_s (i := .bipush 40) (n := 2) (pc' := 69) (st' := [.int 40, .ref 136]) rfl rfl ?_
                  refine wp_s (i := .iload_n 1) (n := 1) (pc' := 70) (st' := [.int 2, .int 40, .ref 136]) rfl rfl ?_
                  refine wp_s (i := .imul) (n := 1) (pc' := 71) (st' := [.int 80, .ref 136]) rfl rfl ?_
                  refine wp_s (i := .iload 4) (n := 2) (pc' := 73) (st' := [.int 6, .int 80, .ref 136]) rfl rfl ?_
                  refine wp_s (i := .iadd) (n := 1) (pc' := 74) (st' := [.int 86, .ref 136]) rfl rfl ?_
                  refine wp_s (i := .iconst 0) (n := 1) (pc' := 75) (st' := [.int 0, .int 86, .ref 136]) rfl rfl ?_
                  refine wp_is (l' := (List.replicate 160 0)) (pc' := 76) rfl (mm_sn rfl (mm_sn rfl (mm_sn rfl hb_136))) rfl rfl (mm_sf (mm_sn rfl (mm_sn rfl (mm_sn rfl hb_136)))) rfl ?_
                  refine wp_s (i := .iinc 4 1) (n := 3) (pc' := 79) (ls' := [some (.ref 114), some (.int 2), some (.int w), some (.int u), some (.int 7)]) (st' := []) rfl rfl ?_
                  refine wp_s (i := .goto (-23)) (n := 3) (pc' := 56) (st' := []) rfl rfl ?_
                  refine wp_s (i := .iload 4) (n := 2) (pc' := 58) (st' := [.int 7]) rfl rfl ?_
                  refine wp_s (i := .bipush 40) (n := 2) (pc' := 60) (st' := [.int 40, .int 7]) rfl rfl ?_
                  refine wp_s (i := .if_icmp .ge 22) (n := 3) (pc' := 63) (st' := []) rfl rfl ?_
                  refine wp_s (i := .aload_n 0) (n := 1) (pc' := 64) (st' := [.ref 114]) rfl rfl ?_
                  refine wp_gf (idx := 74) (a := 114) (v := .ref 136) (pc' := 67) rfl rfl (mm_sn rfl (mm_sn rfl (mm_sn rfl hb_114))) rfl rfl ?_
                  refine wp_s (i := .bipush 40) (n := 2) (pc' := 69) (st' := [.int 40, .ref 136]) rfl rfl ?_
                  refine wp_s (i := .iload_n 1) (n := 1) (pc' := 70) (st' := [.int 2, .int 40, .ref 136]) rfl rfl ?_
                  refine wp_s (i := .imul) (n := 1) (pc' := 71) (st' := [.int 80, .ref 136]) rfl rfl ?_
                  refine wp_s (i := .iload 4) (n := 2) (pc' := 73) (st' := [.int 7, .int 80, .ref 136]) rfl rfl ?_
                  refine wp_s (i := .iadd) (n := 1) (pc' := 74) (st' := [.int 87, .ref 136]) rfl rfl ?_
                  refine wp_s (i := .iconst 0) (n := 1) (pc' := 75) (st' := [.int 0, .int 87, .ref 136]) rfl rfl ?_
                  refine wp_is (l' := (List.replicate 160 0)) (pc' := 76) rfl (mm_sn rfl (mm_sn rfl (mm_sn rfl hb_136))) rfl rfl (mm_sf (mm_sn rfl (mm_sn rfl (mm_sn rfl hb_136)))) rfl ?_
                  refine wp_s (i := .iinc 4 1) (n := 3) (pc' := 79) (ls' := [some (.ref 114), some (.int 2), some (.int w), some (.int u), some (.int 8)]) (st' := []) rfl rfl ?_
                  refine wp_s (i := .goto (-23)) (n := 3) (pc' := 56) (st' := []) rfl rfl ?_
                  refine wp_s (i := .iload 4) (n := 2) (pc' := 58) (st' := [.int 8]) rfl rfl ?_
                  refine wp_s (i := .bipush 40) (n := 2) (pc' := 60) (st' := [.int 40, .int 8]) rfl rfl ?_
                  refine wp_s (i := .if_icmp .ge 22) (n := 3) (pc' := 63) (st' := []) rfl rfl ?_
                  refine wp_s (i := .aload_n 0) (n := 1) (pc' := 64) (st' := [.ref 114]) rfl rfl ?_
                  refine wp_gf (idx := 74) (a := 114) (v := .ref 136) (pc' := 67) rfl rfl (mm_sn rfl (mm_sn rfl (mm_sn rfl hb_114))) rfl rfl ?_
                  refine wp_s (i := .bipush 40) (n := 2) (pc' := 69) (st' := [.int 40, .ref 136]) rfl rfl ?_
                  refine wp_s (i := .iload_n 1) (n := 1) (pc' := 70) (st' := [.int 2, .int 40, .ref 136]) rfl rfl ?_
                  refine wp_s (i := .imul) (n := 1) (pc' := 71) (st' := [.int 80, .ref 136]) rfl rfl ?_
                  refine wp_s (i := .iload 4) (n := 2) (pc' := 73) (st' := [.int 8, .int 80, .ref 136]) rfl rfl ?_
                  refine wp_s (i := .iadd) (n := 1) (pc' := 74) (st' := [.int 88, .ref 136]) rfl rfl ?_
                  refine wp_s (i := .iconst 0) (n := 1) (pc' := 75) (st' := [.int 0, .int 88, .ref 136]) rfl rfl ?_
                  refine wp_is (l' := (List.replicate 160 0)) (pc' := 76) rfl (mm_sn rfl (mm_sn rfl (mm_sn rfl hb_136))) rfl rfl (mm_sf (mm_sn rfl (mm_sn rfl (mm_sn rfl hb_136)))) rfl ?_
                  refine wp_s (i := .iinc 4 1) (n := 3) (pc' := 79) (ls' := [some (.ref 114), some (.int 2), some (.int w), some (.int u), some (.int 9)]) (st' := []) rfl rfl ?_
                  refine wp_s (i := .goto (-23)) (n := 3) (pc' := 56) (st' := []) rfl rfl ?_
                  refine wp_s (i := .iload 4) (n := 2) (pc' := 58) (st' := [.int 9]) rfl rfl ?_
                  refine wp_s (i := .bipush 40) (n := 2) (pc' := 60) (st' := [.int 40, .int 9]) rfl rfl ?_
                  refine wp_s (i := .if_icmp .ge 22) (n := 3) (pc' := 63) (st' := []) rfl rfl ?_
                  refine wp_s (i := .aload_n 0) (n := 1) (pc' := 64) (st' := [.ref 114]) rfl rfl ?_
                  refine wp_gf (idx := 74) (a := 114) (v := .ref 136) (pc' := 67) rfl rfl (mm_sn rfl (mm_sn rfl (mm_sn rfl hb_114))) rfl rfl ?_
                  refine wp_s (i := .bipush 40) (n := 2) (pc' := 69) (st' := [.int 40, .ref 136]) rfl rfl ?_
                  refine wp_s (i := .iload_n 1) (n := 1) (pc' := 70) (st' := [.int 2, .int 40, .ref 136]) rfl rfl ?_
                  refine wp_s (i := .imul) (n := 1) (pc' := 71) (st' := [.int 80, .ref 136]) rfl rfl ?_
                  refine wp_s (i := .iload 4) (n := 2) (pc' := 73) (st' := [.int 9, .int 80, .ref 136]) rfl rfl ?_
                  refine wp_s (i := .iadd) (n := 1) (pc' := 74) (st' := [.int 89, .ref 136]) rfl rfl ?_
                  refine wp_s (i := .iconst 0) (n := 1) (pc' := 75) (st' := [.int 0, .int 89, .ref 136]) rfl rfl ?_
                  refine wp_is (l' := (List.replicate 160 0)) (pc' := 76) rfl (mm_sn rfl (mm_sn rfl (mm_sn rfl hb_136))) rfl rfl (mm_sf (mm_sn rfl (mm_sn rfl (mm_sn rfl hb_136)))) rfl ?_
                  refine wp_s (i := .iinc 4 1) (n := 3) (pc' := 79) (ls' := [some (.ref 114), some (.int 2), some (.int w), some (.int u), some (.int 10)]) (st' := []) rfl rfl ?_
                  refine wp_s (i := .goto (-23)) (n := 3) (pc' := 56) (st' := []) rfl rfl ?_
                  refine wp_s (i := .iload 4) (n := 2) (pc' := 58) (st' := [.int 10]) rfl rfl ?_
                  refine wp_s (i := .bipush 40) (n := 2) (pc' := 60) (st' := [.int 40, .int 10]) rfl rfl ?_
                  refine wp_s (i := .if_icmp .ge 22) (n := 3) (pc' := 63) (st' := []) rfl rfl ?_
                  refine wp_s (i := .aload_n 0) (n := 1) (pc' := 64) (st' := [.ref 114]) rfl rfl ?_
                  refine wp_gf (idx := 74) (a := 114) (v := .ref 136) (pc' := 67) rfl rfl (mm_sn rfl (mm_sn rfl (mm_sn rfl hb_114))) rfl rfl ?_
                  refine wp_s (i := .bipush 40) (n := 2) (pc' := 69) (st' := [.int 40, .ref 136]) rfl rfl ?_
                  refine wp_s (i := .iload_n 1) (n := 1) (pc' := 70) (st' := [.int 2, .int 40, .ref 136]) rfl rfl ?_
                  refine wp_s (i := .imul) (n := 1) (pc' := 71) (st' := [.int 80, .ref 136]) rfl rfl ?_
                  refine wp_s (i := .iload 4) (n := 2) (pc' := 73) (st' := [.int 10, .int 80, .ref 136]) rfl rfl ?_
                  refine wp_s (i := .iadd) (n := 1) (pc' := 74) (st' := [.int 90, .ref 136]) rfl rfl ?_
                  refine wp_s (i := .iconst 0) (n := 1) (pc' := 75) (st' := [.int 0, .int 90, .ref 136]) rfl rfl ?_
                  refine wp_is (l' := (List.replicate 160 0)) (pc' := 76) rfl (mm_sn rfl (mm_sn rfl (mm_sn rfl hb_136))) rfl rfl (mm_sf (mm_sn rfl (mm_sn rfl (mm_sn rfl hb_136)))) rfl ?_
                  refine wp_s (i := .iinc 4 1) (n := 3) (pc' := 79) (ls' := [some (.ref 114), some (.int 2), some (.int w), some (.int u), some (.int 11)]) (st' := []) rfl rfl ?_
                  refine wp_s (i := .goto (-23)) (n := 3) (pc' := 56) (st' := []) rfl rfl ?_
                  refine wp_s (i := .iload 4) (n := 2) (pc' := 58) (st' := [.int 11]) rfl rfl ?_
                  refine wp_s (i := .bipush 40) (n := 2) (pc' := 60) (st' := [.int 40, .int 11]) rfl rfl ?_
                  refine wp_s (i := .if_icmp .ge 22) (n := 3) (pc' := 63) (st' := []) rfl rfl ?_
                  refine wp_s (i := .aload_n 0) (n := 1) (pc' := 64) (st' := [.ref 114]) rfl rfl ?_
                  refine wp_gf (idx := 74) (a := 114) (v := .ref 136) (pc' := 67) rfl rfl (mm_sn rfl (mm_sn rfl (mm_sn rfl hb_114))) rfl rfl ?_
                  refine wp_s (i := .bipush 40) (n := 2) (pc' := 69) (st' := [.int 40, .ref 136]) rfl rfl ?_
                  refine wp_s (i := .iload_n 1) (n := 1) (pc' := 70) (st' := [.int 2, .int 40, .ref 136]) rfl rfl ?_
                  refine wp_s (i := .imul) (n := 1) (pc' := 71) (st' := [.int 80, .ref 136]) rfl rfl ?_
                  refine wp_s (i := .iload 4) (n := 2) (pc' := 73) (st' := [.int 11, .int 80, .ref 136]) rfl rfl ?_
                  refine wp_s (i := .iadd) (n := 1) (pc' := 74) (st' := [.int 91, .ref 136]) rfl rfl ?_
                  refine wp_s (i := .iconst 0) (n := 1) (pc' := 75) (st' := [.int 0, .int 91, .ref 136]) rfl rfl ?_
                  refine wp_is (l' := (List.replicate 160 0)) (pc' := 76) rfl (mm_sn rfl (mm_sn rfl (mm_sn rfl hb_136))) rfl rfl (mm_sf (mm_sn rfl (mm_sn rfl (mm_sn rfl hb_136)))) rfl ?_
                  refine wp_s (i := .iinc 4 1) (n := 3) (pc' := 79) (ls' := [some (.ref 114), some (.int 2), some (.int w), some (.int u), some (.int 12)]) (st' := []) rfl rfl ?_
                  refine wp_s (i := .goto (-23)) (n := 3) (pc' := 56) (st' := []) rfl rfl ?_
                  refine wp_s (i := .iload 4) (n := 2) (pc' := 58) (st' := [.int 12]) rfl rfl ?_
                  refine wp_s (i := .bipush 40) (n := 2) (pc' := 60) (st' := [.int 40, .int 12]) rfl rfl ?_
                  refine wp_s (i := .if_icmp .ge 22) (n := 3) (pc' := 63) (st' := []) rfl rfl ?_
                  refine wp_s (i := .aload_n 0) (n := 1) (pc' := 64) (st' := [.ref 114]) rfl rfl ?_
                  refine wp_gf (idx := 74) (a := 114) (v := .ref 136) (pc' := 67) rfl rfl (mm_sn rfl (mm_sn rfl (mm_sn rfl hb_114))) rfl rfl ?_
                  refine wp_s (i := .bipush 40) (n := 2) (pc' := 69) (st' := [.int 40, .ref 136]) rfl rfl ?_
                  refine wp_s (i := .iload_n 1) (n := 1) (pc' := 70) (st' := [.int 2, .int 40, .ref 136]) rfl rfl ?_
                  refine wp_s (i := .imul) (n := 1) (pc' := 71) (st' := [.int 80, .ref 136]) rfl rfl ?_
                  refine wp_s (i := .iload 4) (n := 2) (pc' := 73) (st' := [.int 12, .int 80, .ref 136]) rfl rfl ?_
                  refine wp_s (i := .iadd) (n := 1) (pc' := 74) (st' := [.int 92, .ref 136]) rfl rfl ?_
                  refine wp_s (i := .iconst 0) (n := 1) (pc' := 75) (st' := [.int 0, .int 92, .ref 136]) rfl rfl ?_
                  refine wp_is (l' := (List.replicate 160 0)) (pc' := 76) rfl (mm_sn rfl (mm_sn rfl (mm_sn rfl hb_136))) rfl rfl (mm_sf (mm_sn rfl (mm_sn rfl (mm_sn rfl hb_136)))) rfl ?_
                  refine wp_s (i := .iinc 4 1) (n := 3) (pc' := 79) (ls' := [some (.ref 114), some (.int 2), some (.int w), some (.int u), some (.int 13)]) (st' := []) rfl rfl ?_
                  refine wp_s (i := .goto (-23)) (n := 3) (pc' := 56) (st' := []) rfl rfl ?_
                  refine wp_s (i := .iload 4) (n := 2) (pc' := 58) (st' := [.int 13]) rfl rfl ?_
                  refine wp_s (i := .bipush 40) (n := 2) (pc' := 60) (st' := [.int 40, .int 13]) rfl rfl ?_
                  refine wp_s (i := .if_icmp .ge 22) (n := 3) (pc' := 63) (st' := []) rfl rfl ?_
                  refine wp_s (i := .aload_n 0) (n := 1) (pc' := 64) (st' := [.ref 114]) rfl rfl ?_
                  refine wp_gf (idx := 74) (a := 114) (v := .ref 136) (pc' := 67) rfl rfl (mm_sn rfl (mm_sn rfl (mm_sn rfl hb_114))) rfl rfl ?_
                  refine wp_s (i := .bipush 40) (n := 2) (pc' := 69) (st' := [.int 40, .ref 136]) rfl rfl ?_
                  refine wp_s (i := .iload_n 1) (n := 1) (pc' := 70) (st' := [.int 2, .int 40, .ref 136]) rfl rfl ?_
                  refine wp_s (i := .imul) (n := 1) (pc' := 71) (st' := [.int 80, .ref 136]) rfl rfl ?_
                  refine wp_s (i := .iload 4) (n := 2) (pc' := 73) (st' := [.int 13, .int 80, .ref 136]) rfl rfl ?_
                  refine wp_s (i := .iadd) (n := 1) (pc' := 74) (st' := [.int 93, .ref 136]) rfl rfl ?_
                  refine wp_s (i := .iconst 0) (n := 1) (pc' := 75) (st' := [.int 0, .int 93, .ref 136]) rfl rfl ?_
                  refine wp_is (l' := (List.replicate 160 0)) (pc' := 76) rfl (mm_sn rfl (mm_sn rfl (mm_sn rfl hb_136))) rfl rfl (mm_sf (mm_sn rfl (mm_sn rfl (mm_sn rfl hb_136)))) rfl ?_
                  refine wp_s (i := .iinc 4 1) (n := 3) (pc' := 79) (ls' := [some (.ref 114), some (.int 2), some (.int w), some (.int u), some (.int 14)]) (st' := []) rfl rfl ?_
                  refine wp_s (i := .goto (-23)) (n := 3) (pc' := 56) (st' := []) rfl rfl ?_
                  refine wp_s (i := .iload 4) (n := 2) (pc' := 58) (st' := [.int 14]) rfl rfl ?_
                  refine wp_s (i := .bipush 40) (n := 2) (pc' := 60) (st' := [.int 40, .int 14]) rfl rfl ?_
                  refine wp_s (i := .if_icmp .ge 22) (n := 3) (pc' := 63) (st' := []) rfl rfl ?_
                  refine wp_s (i := .aload_n 0) (n := 1) (pc' := 64) (st' := [.ref 114]) rfl rfl ?_
                  refine wp_gf (idx := 74) (a := 114) (v := .ref 136) (pc' := 67) rfl rfl (mm_sn rfl (mm_sn rfl (mm_sn rfl hb_114))) rfl rfl ?_
                  refine wp_s (i := .bipush 40) (n := 2) (pc' := 69) (st' := [.int 40, .ref 136]) rfl rfl ?_
                  refine wp_s (i := .iload_n 1) (n := 1) (pc' := 70) (st' := [.int 2, .int 40, .ref 136]) rfl rfl ?_
                  refine wp_s (i := .imul) (n := 1) (pc' := 71) (st' := [.int 80, .ref 136]) rfl rfl ?_
                  refine wp_s (i := .iload 4) (n := 2) (pc' := 73) (st' := [.int 14, .int 80, .ref 136]) rfl rfl ?_
                  refine wp_s (i := .iadd) (n := 1) (pc' := 74) (st' := [.int 94, .ref 136]) rfl rfl ?_
                  refine wp_s (i := .iconst 0) (n := 1) (pc' := 75) (st' := [.int 0, .int 94, .ref 136]) rfl rfl ?_
                  refine wp_is (l' := (List.replicate 160 0)) (pc' := 76) rfl (mm_sn rfl (mm_sn rfl (mm_sn rfl hb_136))) rfl rfl (mm_sf (mm_sn rfl (mm_sn rfl (mm_sn rfl hb_136)))) rfl ?_
                  refine wp_s (i := .iinc 4 1) (n := 3) (pc' := 79) (ls' := [some (.ref 114), some (.int 2), some (.int w), some (.int u), some (.int 15)]) (st' := []) rfl rfl ?_
                  refine wp_s (i := .goto (-23)) (n := 3) (pc' := 56) (st' := []) rfl rfl ?_
                  refine wp_s (i := .iload 4) (n := 2) (pc' := 58) (st' := [.int 15]) rfl rfl ?_
                  refine wp_s (i := .bipush 40) (n := 2) (pc' := 60) (st' := [.int 40, .int 15]) rfl rfl ?_
                  refine wp_s (i := .if_icmp .ge 22) (n := 3) (pc' := 63) (st' := []) rfl rfl ?_
                  refine wp_s (i := .aload_n 0) (n := 1) (pc' := 64) (st' := [.ref 114]) rfl rfl ?_
                  refine wp_gf (idx := 74) (a := 114) (v := .ref 136) (pc' := 67) rfl rfl (mm_sn rfl (mm_sn rfl (mm_sn rfl hb_114))) rfl rfl ?_
                  refine wp_s (i := .bipush 40) (n := 2) (pc' := 69) (st' := [.int 40, .ref 136]) rfl rfl ?_
                  refine wp_s (i := .iload_n 1) (n := 1) (pc' := 70) (st' := [.int 2, .int 40, .ref 136]) rfl rfl ?_
                  refine wp_s (i := .imul) (n := 1) (pc' := 71) (st' := [.int 80, .ref 136]) rfl rfl ?_
                  refine wp_s (i := .iload 4) (n := 2) (pc' := 73) (st' := [.int 15, .int 80, .ref 136]) rfl rfl ?_
                  refine wp_s (i := .iadd) (n := 1) (pc' := 74) (st' := [.int 95, .ref 136]) rfl rfl ?_
                  refine wp_s (i := .iconst 0) (n := 1) (pc' := 75) (st' := [.int 0, .int 95, .ref 136]) rfl rfl ?_
                  refine wp_is (l' := (List.replicate 160 0)) (pc' := 76) rfl (mm_sn rfl (mm_sn rfl (mm_sn rfl hb_136))) rfl rfl (mm_sf (mm_sn rfl (mm_sn rfl (mm_sn rfl hb_136)))) rfl ?_
                  refine wp_s (i := .iinc 4 1) (n := 3) (pc' := 79) (ls' := [some (.ref 114), some (.int 2), some (.int w), some (.int u), some (.int 16)]) (st' := []) rfl rfl ?_
                  refine wp_s (i := .goto (-23)) (n := 3) (pc' := 56) (st' := []) rfl rfl ?_
                  refine wp_s (i := .iload 4) (n := 2) (pc' := 58) (st' := [.int 16]) rfl rfl ?_
                  refine wp_s (i := .bipush 40) (n := 2) (pc' := 60) (st' := [.int 40, .int 16]) rfl rfl ?_
                  refine wp_s (i := .if_icmp .ge 22) (n := 3) (pc' := 63) (st' := []) rfl rfl ?_
                  refine wp_s (i := .aload_n 0) (n := 1) (pc' := 64) (st' := [.ref 114]) rfl rfl ?_
                  refine wp_gf (idx := 74) (a := 114) (v := .ref 136) (pc' := 67) rfl rfl (mm_sn rfl (mm_sn rfl (mm_sn rfl hb_114))) rfl rfl ?_
                  refine wp_s (i := .bipush 40) (n := 2) (pc' := 69) (st' := [.int 40, .ref 136]) rfl rfl ?_
                  refine wp_s (i := .iload_n 1) (n := 1) (pc' := 70) (st' := [.int 2, .int 40, .ref 136]) rfl rfl ?_
                  refine wp_s (i := .imul) (n := 1) (pc' := 71) (st' := [.int 80, .ref 136]) rfl rfl ?_
                  refine wp_s (i := .iload 4) (n := 2) (pc' := 73) (st' := [.int 16, .int 80, .ref 136]) rfl rfl ?_
                  refine wp_s (i := .iadd) (n := 1) (pc' := 74) (st' := [.int 96, .ref 136]) rfl rfl ?_
                  refine wp_s (i := .iconst 0) (n := 1) (pc' := 75) (st' := [.int 0, .int 96, .ref 136]) rfl rfl ?_
                  refine wp_is (l' := (List.replicate 160 0)) (pc' := 76) rfl (mm_sn rfl (mm_sn rfl (mm_sn rfl hb_136))) rfl rfl (mm_sf (mm_sn rfl (mm_sn rfl (mm_sn rfl hb_136)))) rfl ?_
                  refine wp_s (i := .iinc 4 1) (n := 3) (pc' := 79) (ls' := [some (.ref 114), some (.int 2), some (.int w), some (.int u), some (.int 17)]) (st' := []) rfl rfl ?_
                  refine wp_s (i := .goto (-23)) (n := 3) (pc' := 56) (st' := []) rfl rfl ?_
                  refine wp_s (i := .iload 4) (n := 2) (pc' := 58) (st' := [.int 17]) rfl rfl ?_
                  refine wp_s (i := .bipush 40) (n := 2) (pc' := 60) (st' := [.int 40, .int 17]) rfl rfl ?_
                  refine wp_s (i := .if_icmp .ge 22) (n := 3) (pc' := 63) (st' := []) rfl rfl ?_
                  refine wp_s (i := .aload_n 0) (n := 1) (pc' := 64) (st' := [.ref 114]) rfl rfl ?_
                  refine wp_gf (idx := 74) (a := 114) (v := .ref 136) (pc' := 67) rfl rfl (mm_sn rfl (mm_sn rfl (mm_sn rfl hb_114))) rfl rfl ?_
                  refine wp_s (i := .bipush 40) (n := 2) (pc' := 69) (st' := [.int 40, .ref 136]) rfl rfl ?_
                  refine wp_s (i := .iload_n 1) (n := 1) (pc' := 70) (st' := [.int 2, .int 40, .ref 136]) rfl rfl ?_
                  refine wp_s (i := .imul) (n := 1) (pc' := 71) (st' := [.int 80, .ref 136]) rfl rfl ?_
                  refine wp_s (i := .iload 4) (n := 2) (pc' := 73) (st' := [.int 17, .int 80, .ref 136]) rfl rfl ?_
                  refine wp_s (i := .iadd) (n := 1) (pc' := 74) (st' := [.int 97, .ref 136]) rfl rfl ?_
                  refine wp_s (i := .iconst 0) (n := 1) (pc' := 75) (st' := [.int 0, .int 97, .ref 136]) rfl rfl ?_
                  refine wp_is (l' := (List.replicate 160 0)) (pc' := 76) rfl (mm_sn rfl (mm_sn rfl (mm_sn rfl hb_136))) rfl rfl (mm_sf (mm_sn rfl (mm_sn rfl (mm_sn rfl hb_136)))) rfl ?_
                  refine wp_s (i := .iinc 4 1) (n := 3) (pc' := 79) (ls' := [some (.ref 114), some (.int 2), some (.int w), some (.int u), some (.int 18)]) (st' := []) rfl rfl ?_
                  refine wp_s (i := .goto (-23)) (n := 3) (pc' := 56) (st' := []) rfl rfl ?_
                  refine wp_s (i := .iload 4) (n := 2) (pc' := 58) (st' := [.int 18]) rfl rfl ?_
                  refine wp_s (i := .bipush 40) (n := 2) (pc' := 60) (st' := [.int 40, .int 18]) rfl rfl ?_
                  refine wp_s (i := .if_icmp .ge 22) (n := 3) (pc' := 63) (st' := []) rfl rfl ?_
                  refine wp_s (i := .aload_n 0) (n := 1) (pc' := 64) (st' := [.ref 114]) rfl rfl ?_
                  refine wp_gf (idx := 74) (a := 114) (v := .ref 136) (pc' := 67) rfl rfl (mm_sn rfl (mm_sn rfl (mm_sn rfl hb_114))) rfl rfl ?_
                  refine wp_s (i := .bipush 40) (n := 2) (pc' := 69) (st' := [.int 40, .ref 136]) rfl rfl ?_
                  refine wp_s (i := .iload_n 1) (n := 1) (pc' := 70) (st' := [.int 2, .int 40, .ref 136]) rfl rfl ?_
                  refine wp_s (i := .imul) (n := 1) (pc' := 71) (st' := [.int 80, .ref 136]) rfl rfl ?_
                  refine wp_s (i := .iload 4) (n := 2) (pc' := 73) (st' := [.int 18, .int 80, .ref 136]) rfl rfl ?_
                  refine wp_s (i := .iadd) (n := 1) (pc' := 74) (st' := [.int 98, .ref 136]) rfl rfl ?_
                  refine wp_s (i := .iconst 0) (n := 1) (pc' := 75) (st' := [.int 0, .int 98, .ref 136]) rfl rfl ?_
                  refine wp_is (l' := (List.replicate 160 0)) (pc' := 76) rfl (mm_sn rfl (mm_sn rfl (mm_sn rfl hb_136))) rfl rfl (mm_sf (mm_sn rfl (mm_sn rfl (mm_sn rfl hb_136)))) rfl ?_
                  refine wp_s (i := .iinc 4 1) (n := 3) (pc' := 79) (ls' := [some (.ref 114), some (.int 2), some (.int w), some (.int u), some (.int 19)]) (st' := []) rfl rfl ?_
                  refine wp_s (i := .goto (-23)) (n := 3) (pc' := 56) (st' := []) rfl rfl ?_
                  refine wp_s (i := .iload 4) (n := 2) (pc' := 58) (st' := [.int 19]) rfl rfl ?_
                  refine wp_s (i := .bipush 40) (n := 2) (pc' := 60) (st' := [.int 40, .int 19]) rfl rfl ?_
                  refine wp_s (i := .if_icmp .ge 22) (n := 3) (pc' := 63) (st' := []) rfl rfl ?_
                  refine wp_s (i := .aload_n 0) (n := 1) (pc' := 64) (st' := [.ref 114]) rfl rfl ?_
                  refine wp_gf (idx := 74) (a := 114) (v := .ref 136) (pc' := 67) rfl rfl (mm_sn rfl (mm_sn rfl (mm_sn rfl hb_114))) rfl rfl ?_
                  refine wp_s (i := .bipush 40) (n := 2) (pc' := 69) (st' := [.int 40, .ref 136]) rfl rfl ?_
                  refine wp_s (i := .iload_n 1) (n := 1) (pc' := 70) (st' := [.int 2, .int 40, .ref 136]) rfl rfl ?_
                  refine wp_s (i := .imul) (n := 1) (pc' := 71) (st' := [.int 80, .ref 136]) rfl rfl ?_
                  refine wp_s (i := .iload 4) (n := 2) (pc' := 73) (st' := [.int 19, .int 80, .ref 136]) rfl rfl ?_
                  refine wp_s (i := .iadd) (n := 1) (pc' := 74) (st' := [.int 99, .ref 136]) rfl rfl ?_
                  refine wp_s (i := .iconst 0) (n := 1) (pc' := 75) (st' := [.int 0, .int 99, .ref 136]) rfl rfl ?_
                  refine wp_is (l' := (List.replicate 160 0)) (pc' := 76) rfl (mm_sn rfl (mm_sn rfl (mm_sn rfl hb_136))) rfl rfl (mm_sf (mm_sn rfl (mm_sn rfl (mm_sn rfl hb_136)))) rfl ?_
                  refine wp_s (i := .iinc 4 1) (n := 3) (pc' := 79) (ls' := [some (.ref 114), some (.int 2), some (.int w), some (.int u), some (.int 20)]) (st' := []) rfl rfl ?_
                  refine wp_s (i := .goto (-23)) (n := 3) (pc' := 56) (st' := []) rfl rfl ?_
                  refine wp_s (i := .iload 4) (n := 2) (pc' := 58) (st' := [.int 20]) rfl rfl ?_
                  refine wp_s (i := .bipush 40) (n := 2) (pc' := 60) (st' := [.int 40, .int 20]) rfl rfl ?_
                  refine wp_s (i := .if_icmp .ge 22) (n := 3) (pc' := 63) (st' := []) rfl rfl ?_
                  refine wp_s (i := .aload_n 0) (n := 1) (pc' := 64) (st' := [.ref 114]) rfl rfl ?_
                  refine wp_gf (idx := 74) (a := 114) (v := .ref 136) (pc' := 67) rfl rfl (mm_sn rfl (mm_sn rfl (mm_sn rfl hb_114))) rfl rfl ?_
                  refine wp_s (i := .bipush 40) (n := 2) (pc' := 69) (st' := [.int 40, .ref 136]) rfl rfl ?_
                  refine wp_s (i := .iload_n 1) (n := 1) (pc' := 70) (st' := [.int 2, .int 40, .ref 136]) rfl rfl ?_
                  refine wp_s (i := .imul) (n := 1) (pc' := 71) (st' := [.int 80, .ref 136]) rfl rfl ?_
                  refine wp_s (i := .iload 4) (n := 2) (pc' := 73) (st' := [.int 20, .int 80, .ref 136]) rfl rfl ?_
                  refine wp_s (i := .iadd) (n := 1) (pc' := 74) (st' := [.int 100, .ref 136]) rfl rfl ?_
                  refine wp_s (i := .iconst 0) (n := 1) (pc' := 75) (st' := [.int 0, .int 100, .ref 136]) rfl rfl ?_
                  refine wp_is (l' := (List.replicate 160 0)) (pc' := 76) rfl (mm_sn rfl (mm_sn rfl (mm_sn rfl hb_136))) rfl rfl (mm_sf (mm_sn rfl (mm_sn rfl (mm_sn rfl hb_136)))) rfl ?_
                  refine wp_s (i := .iinc 4 1) (n := 3) (pc' := 79) (ls' := [some (.ref 114), some (.int 2), some (.int w), some (.int u), some (.int 21)]) (st' := []) rfl rfl ?_
                  refine wp_s (i := .goto (-23)) (n := 3) (pc' := 56) (st' := []) rfl rfl ?_
                  refine wp_s (i := .iload 4) (n := 2) (pc' := 58) (st' := [.int 21]) rfl rfl ?_
                  refine wp_s (i := .bipush 40) (n := 2) (pc' := 60) (st' := [.int 40, .int 21]) rfl rfl ?_
                  refine wp_s (i := .if_icmp .ge 22) (n := 3) (pc' := 63) (st' := []) rfl rfl ?_
                  refine wp_s (i := .aload_n 0) (n := 1) (pc' := 64) (st' := [.ref 114]) rfl rfl ?_
                  refine wp_gf (idx := 74) (a := 114) (v := .ref 136) (pc' := 67) rfl rfl (mm_sn rfl (mm_sn rfl (mm_sn rfl hb_114))) rfl rfl ?_
                  refine wp_s (i := .bipush 40) (n := 2) (pc' := 69) (st' := [.int 40, .ref 136]) rfl rfl ?_
                  refine wp_s (i := .iload_n 1) (n := 1) (pc' := 70) (st' := [.int 2, .int 40, .ref 136]) rfl rfl ?_
                  refine wp_s (i := .imul) (n := 1) (pc' := 71) (st' := [.int 80, .ref 136]) rfl rfl ?_
                  refine wp_s (i := .iload 4) (n := 2) (pc' := 73) (st' := [.int 21, .int 80, .ref 136]) rfl rfl ?_
                  refine wp_s (i := .iadd) (n := 1) (pc' := 74) (st' := [.int 101, .ref 136]) rfl rfl ?_
                  refine wp_s (i := .iconst 0) (n := 1) (pc' := 75) (st' := [.int 0, .int 101, .ref 136]) rfl rfl ?_
                  refine wp_is (l' := (List.replicate 160 0)) (pc' := 76) rfl (mm_sn rfl (mm_sn rfl (mm_sn rfl hb_136))) rfl rfl (mm_sf (mm_sn rfl (mm_sn rfl (mm_sn rfl hb_136)))) rfl ?_
                  refine wp_s (i := .iinc 4 1) (n := 3) (pc' := 79) (ls' := [some (.ref 114), some (.int 2), some (.int w), some (.int u), some (.int 22)]) (st' := []) rfl rfl ?_
                  refine wp_s (i := .goto (-23)) (n := 3) (pc' := 56) (st' := []) rfl rfl ?_
                  refine wp_s (i := .iload 4) (n := 2) (pc' := 58) (st' := [.int 22]) rfl rfl ?_
                  refine wp_s (i := .bipush 40) (n := 2) (pc' := 60) (st' := [.int 40, .int 22]) rfl rfl ?_
                  refine wp_s (i := .if_icmp .ge 22) (n := 3) (pc' := 63) (st' := []) rfl rfl ?_
                  refine wp_s (i := .aload_n 0) (n := 1) (pc' := 64) (st' := [.ref 114]) rfl rfl ?_
                  refine wp_gf (idx := 74) (a := 114) (v := .ref 136) (pc' := 67) rfl rfl (mm_sn rfl (mm_sn rfl (mm_sn rfl hb_114))) rfl rfl ?_
                  refine wp_s (i := .bipush 40) (n := 2) (pc' := 69) (st' := [.int 40, .ref 136]) rfl rfl ?_
                  refine wp_s (i := .iload_n 1) (n := 1) (pc' := 70) (st' := [.int 2, .int 40, .ref 136]) rfl rfl ?_
                  refine wp_s (i := .imul) (n := 1) (pc' := 71) (st' := [.int 80, .ref 136]) rfl rfl ?_
                  refine wp_s (i := .iload 4) (n := 2) (pc' := 73) (st' := [.int 22, .int 80, .ref 136]) rfl rfl ?_
                  refine wp_s (i := .iadd) (n := 1) (pc' := 74) (st' := [.int 102, .ref 136]) rfl rfl ?_
                  refine wp_s (i := .iconst 0) (n := 1) (pc' := 75) (st' := [.int 0, .int 102, .ref 136]) rfl rfl ?_
                  refine wp_is (l' := (List.replicate 160 0)) (pc' := 76) rfl (mm_sn rfl (mm_sn rfl (mm_sn rfl hb_136))) rfl rfl (mm_sf (mm_sn rfl (mm_sn rfl (mm_sn rfl hb_136)))) rfl ?_
                  refine wp_s (i := .iinc 4 1) (n := 3) (pc' := 79) (ls' := [some (.ref 114), some (.int 2), some (.int w), some (.int u), some (.int 23)]) (st' := []) rfl rfl ?_
                  refine wp_s (i := .goto (-23)) (n := 3) (pc' := 56) (st' := []) rfl rfl ?_
                  refine wp_s (i := .iload 4) (n := 2) (pc' := 58) (st' := [.int 23]) rfl rfl ?_
                  refine wp_s (i := .bipush 40) (n := 2) (pc' := 60) (st' := [.int 40, .int 23]) rfl rfl ?_
                  refine wp_s (i := .if_icmp .ge 22) (n := 3) (pc' := 63) (st' := []) rfl rfl ?_
                  refine wp_s (i := .aload_n 0) (n := 1) (pc' := 64) (st' := [.ref 114]) rfl rfl ?_
                  refine wp_gf (idx := 74) (a := 114) (v := .ref 136) (pc' := 67) rfl rfl (mm_sn rfl (mm_sn rfl (mm_sn rfl hb_114))) rfl rfl ?_
                  refine wp_s (i := .bipush 40) (n := 2) (pc' := 69) (st' := [.int 40, .ref 136]) rfl rfl ?_
                  refine wp_s (i := .iload_n 1) (n := 1) (pc' := 70) (st' := [.int 2, .int 40, .ref 136]) rfl rfl ?_
                  refine wp_s (i := .imul) (n := 1) (pc' := 71) (st' := [.int 80, .ref 136]) rfl rfl ?_
                  refine wp_s (i := .iload 4) (n := 2) (pc' := 73) (st' := [.int 23, .int 80, .ref 136]) rfl rfl ?_
                  refine wp_s (i := .iadd) (n := 1) (pc' := 74) (st' := [.int 103, .ref 136]) rfl rfl ?_
                  refine wp_s (i := .iconst 0) (n := 1) (pc' := 75) (st' := [.int 0, .int 103, .ref 136]) rfl rfl ?_
                  refine wp_is (l' := (List.replicate 160 0)) (pc' := 76) rfl (mm_sn rfl (mm_sn rfl (mm_sn rfl hb_136))) rfl rfl (mm_sf (mm_sn rfl (mm_sn rfl (mm_sn rfl hb_136)))) rfl ?_
                  refine wp_s (i := .iinc 4 1) (n := 3) (pc' := 79) (ls' := [some (.ref 114), some (.int 2), some (.int w), some (.int u), some (.int 24)]) (st' := []) rfl rfl ?_
                  refine wp_s (i := .goto (-23)) (n := 3) (pc' := 56) (st' := []) rfl rfl ?_
                  refine wp_s (i := .iload 4) (n := 2) (pc' := 58) (st' := [.int 24]) rfl rfl ?_
                  refine wp_s (i := .bipush 40) (n := 2) (pc' := 60) (st' := [.int 40, .int 24]) rfl rfl ?_
                  refine wp_s (i := .if_icmp .ge 22) (n := 3) (pc' := 63) (st' := []) rfl rfl ?_
                  refine wp_s (i := .aload_n 0) (n := 1) (pc' := 64) (st' := [.ref 114]) rfl rfl ?_
                  refine wp_gf (idx := 74) (a := 114) (v := .ref 136) (pc' := 67) rfl rfl (mm_sn rfl (mm_sn rfl (mm_sn rfl hb_114))) rfl rfl ?_
                  refine wp_s (i := .bipush 40) (n := 2) (pc' := 69) (st' := [.int 40, .ref 136]) rfl rfl ?_
                  refine wp_s (i := .iload_n 1) (n := 1) (pc' := 70) (st' := [.int 2, .int 40, .ref 136]) rfl rfl ?_
                  refine wp_s (i := .imul) (n := 1) (pc' := 71) (st' := [.int 80, .ref 136]) rfl rfl ?_
                  refine wp_s (i := .iload 4) (n := 2) (pc' := 73) (st' := [.int 24, .int 80, .ref 136]) rfl rfl ?_
                  refine wp_s (i := .iadd) (n := 1) (pc' := 74) (st' := [.int 104, .ref 136]) rfl rfl ?_
                  refine wp_s (i := .iconst 0) (n := 1) (pc' := 75) (st' := [.int 0, .int 104, .ref 136]) rfl rfl ?_
                  refine wp_is (l' := (List.replicate 160 0)) (pc' := 76) rfl (mm_sn rfl (mm_sn rfl (mm_sn rfl hb_136))) rfl rfl (mm_sf (mm_sn rfl (mm_sn rfl (mm_sn rfl hb_136)))) rfl ?_
                  refine wp_s (i := .iinc 4 1) (n := 3) (pc' := 79) (ls' := [some (.ref 114), some (.int 2), some (.int w), some (.int u), some (.int 25)]) (st' := []) rfl rfl ?_
                  refine wp_s (i := .goto (-23)) (n := 3) (pc' := 56) (st' := []) rfl rfl ?_
                  refine wp_s (i := .iload 4) (n := 2) (pc' := 58) (st' := [.int 25]) rfl rfl ?_
                  refine wp_s (i := .bipush 40) (n := 2) (pc' := 60) (st' := [.int 40, .int 25]) rfl rfl ?_
                  refine wp_s (i := .if_icmp .ge 22) (n := 3) (pc' := 63) (st' := []) rfl rfl ?_
                  refine wp_s (i := .aload_n 0) (n := 1) (pc' := 64) (st' := [.ref 114]) rfl rfl ?_
                  refine wp_gf (idx := 74) (a := 114) (v := .ref 136) (pc' := 67) rfl rfl (mm_sn rfl (mm_sn rfl (mm_sn rfl hb_114))) rfl rfl ?_
                  refine wp_s (i := .bipush 40) (n := 2) (pc' := 69) (st' := [.int 40, .ref 136]) rfl rfl ?_
                  refine wp_s (i := .iload_n 1) (n := 1) (pc' := 70) (st' := [.int 2, .int 40, .ref 136]) rfl rfl ?_
                  refine wp_s (i := .imul) (n := 1) (pc' := 71) (st' := [.int 80, .ref 136]) rfl rfl ?_
                  refine wp_s (i := .iload 4) (n := 2) (pc' := 73) (st' := [.int 25, .int 80, .ref 136]) rfl rfl ?_
                  refine wp_s (i := .iadd) (n := 1) (pc' := 74) (st' := [.int 105, .ref 136]) rfl rfl ?_
                  refine wp_s (i := .iconst 0) (n := 1) (pc' := 75) (st' := [.int 0, .int 105, .ref 136]) rfl rfl ?_
                  refine wp_is (l' := (List.replicate 160 0)) (pc' := 76) rfl (mm_sn rfl (mm_sn rfl (mm_sn rfl hb_136))) rfl rfl (mm_sf (mm_sn rfl (mm_sn rfl (mm_sn rfl hb_136)))) rfl ?_
                  refine wp_s (i := .iinc 4 1) (n := 3) (pc' := 79) (ls' := [some (.ref 114), some (.int 2), some (.int w), some (.int u), some (.int 26)]) (st' := []) rfl rfl ?_
                  refine wp_s (i := .goto (-23)) (n := 3) (pc' := 56) (st' := []) rfl rfl ?_
                  refine wp_s (i := .iload 4) (n := 2) (pc' := 58) (st' := [.int 26]) rfl rfl ?_
                  refine wp_s (i := .bipush 40) (n := 2) (pc' := 60) (st' := [.int 40, .int 26]) rfl rfl ?_
                  refine wp_s (i := .if_icmp .ge 22) (n := 3) (pc' := 63) (st' := []) rfl rfl ?_
                  refine wp_s (i := .aload_n 0) (n := 1) (pc' := 64) (st' := [.ref 114]) rfl rfl ?_
                  refine wp_gf (idx := 74) (a := 114) (v := .ref 136) (pc' := 67) rfl rfl (mm_sn rfl (mm_sn rfl (mm_sn rfl hb_114))) rfl rfl ?_
                  refine wp_s (i := .bipush 40) (n := 2) (pc' := 69) (st' := [.int 40, .ref 136]) rfl rfl ?_
                  refine wp_s (i := .iload_n 1) (n := 1) (pc' := 70) (st' := [.int 2, .int 40, .ref 136]) rfl rfl ?_
                  refine wp_s (i := .imul) (n := 1) (pc' := 71) (st' := [.int 80, .ref 136]) rfl rfl ?_
                  refine wp_s (i := .iload 4) (n := 2) (pc' := 73) (st' := [.int 26, .int 80, .ref 136]) rfl rfl ?_
                  refine wp_s (i := .iadd) (n := 1) (pc' := 74) (st' := [.int 106, .ref 136]) rfl rfl ?_
                  refine wp_s (i := .iconst 0) (n := 1) (pc' := 75) (st' := [.int 0, .int 106, .ref 136]) rfl rfl ?_
                  refine wp_is (l' := (List.replicate 160 0)) (pc' := 76) rfl (mm_sn rfl (mm_sn rfl (mm_sn rfl hb_136))) rfl rfl (mm_sf (mm_sn rfl (mm_sn rfl (mm_sn rfl hb_136)))) rfl ?_
                  refine wp_s (i := .iinc 4 1) (n := 3) (pc' := 79) (ls' := [some (.ref 114), some (.int 2), some (.int w), some (.int u), some (.int 27)]) (st' := []) rfl rfl ?_
                  refine wp_s (i := .goto (-23)) (n := 3) (pc' := 56) (st' := []) rfl rfl ?_
                  refine wp_s (i := .iload 4) (n := 2) (pc' := 58) (st' := [.int 27]) rfl rfl ?_
                  refine wp_s (i := .bipush 40) (n := 2) (pc' := 60) (st' := [.int 40, .int 27]) rfl rfl ?_
                  refine wp_s (i := .if_icmp .ge 22) (n := 3) (pc' := 63) (st' := []) rfl rfl ?_
                  refine wp_s (i := .aload_n 0) (n := 1) (pc' := 64) (st' := [.ref 114]) rfl rfl ?_
                  refine wp_gf (idx := 74) (a := 114) (v := .ref 136) (pc' := 67) rfl rfl (mm_sn rfl (mm_sn rfl (mm_sn rfl hb_114))) rfl rfl ?_
                  refine wp_s (i := .bipush 40) (n := 2) (pc' := 69) (st' := [.int 40, .ref 136]) rfl rfl ?_
                  refine wp_s (i := .iload_n 1) (n := 1) (pc' := 70) (st' := [.int 2, .int 40, .ref 136]) rfl rfl ?_
                  refine wp_s (i := .imul) (n := 1) (pc' := 71) (st' := [.int 80, .ref 136]) rfl rfl ?_
                  refine wp_s (i := .iload 4) (n := 2) (pc' := 73) (st' := [.int 27, .int 80, .ref 136]) rfl rfl ?_
                  refine wp_s (i := .iadd) (n := 1) (pc' := 74) (st' := [.int 107, .ref 136]) rfl rfl ?_
                  refine wp_s (i := .iconst 0) (n := 1) (pc' := 75) (st' := [.int 0, .int 107, .ref 136]) rfl rfl ?_
                  refine wp_is (l' := (List.replicate 160 0)) (pc' := 76) rfl (mm_sn rfl (mm_sn rfl (mm_sn rfl hb_136))) rfl rfl (mm_sf (mm_sn rfl (mm_sn rfl (mm_sn rfl hb_136)))) rfl ?_
                  refine wp_s (i := .iinc 4 1) (n := 3) (pc' := 79) (ls' := [some (.ref 114), some (.int 2), some (.int w), some (.int u), some (.int 28)]) (st' := []) rfl rfl ?_
                  refine wp_s (i := .goto (-23)) (n := 3) (pc' := 56) (st' := []) rfl rfl ?_
                  refine wp_s (i := .iload 4) (n := 2) (pc' := 58) (st' := [.int 28]) rfl rfl ?_
                  refine wp_s (i := .bipush 40) (n := 2) (pc' := 60) (st' := [.int 40, .int 28]) rfl rfl ?_
                  refine wp_s (i := .if_icmp .ge 22) (n := 3) (pc' := 63) (st' := []) rfl rfl ?_
                  refine wp_s (i := .aload_n 0) (n := 1) (pc' := 64) (st' := [.ref 114]) rfl rfl ?_
                  refine wp_gf (idx := 74) (a := 114) (v := .ref 136) (pc' := 67) rfl rfl (mm_sn rfl (mm_sn rfl (mm_sn rfl hb_114))) rfl rfl ?_
                  refine wp_s (i := .bipush 40) (n := 2) (pc' := 69) (st' := [.int 40, .ref 136]) rfl rfl ?_
                  refine wp_s (i := .iload_n 1) (n := 1) (pc' := 70) (st' := [.int 2, .int 40, .ref 136]) rfl rfl ?_
                  refine wp_s (i := .imul) (n := 1) (pc' := 71) (st' := [.int 80, .ref 136]) rfl rfl ?_
                  refine wp_s (i := .iload 4) (n := 2) (pc' := 73) (st' := [.int 28, .int 80, .ref 136]) rfl rfl ?_
                  refine wp_s (i := .iadd) (n := 1) (pc' := 74) (st' := [.int 108, .ref 136]) rfl rfl ?_
                  refine wp_s (i := .iconst 0) (n := 1) (pc' := 75) (st' := [.int 0, .int 108, .ref 136]) rfl rfl ?_
                  refine wp_is (l' := (List.replicate 160 0)) (pc' := 76) rfl (mm_sn rfl (mm_sn rfl (mm_sn rfl hb_136))) rfl rfl (mm_sf (mm_sn rfl (mm_sn rfl (mm_sn rfl hb_136)))) rfl ?_
                  refine wp_s (i := .iinc 4 1) (n := 3) (pc' := 79) (ls' := [some (.ref 114), some (.int 2), some (.int w), some (.int u), some (.int 29)]) (st' := []) rfl rfl ?_
                  refine wp_s (i := .goto (-23)) (n := 3) (pc' := 56) (st' := []) rfl rfl ?_
                  refine wp_s (i := .iload 4) (n := 2) (pc' := 58) (st' := [.int 29]) rfl rfl ?_
                  refine wp_s (i := .bipush 40) (n := 2) (pc' := 60) (st' := [.int 40, .int 29]) rfl rfl ?_
                  refine wp_s (i := .if_icmp .ge 22) (n := 3) (pc' := 63) (st' := []) rfl rfl ?_
                  refine wp_s (i := .aload_n 0) (n := 1) (pc' := 64) (st' := [.ref 114]) rfl rfl ?_
                  refine wp_gf (idx := 74) (a := 114) (v := .ref 136) (pc' := 67) rfl rfl (mm_sn rfl (mm_sn rfl (mm_sn rfl hb_114))) rfl rfl ?_
                  refine wp_s (i := .bipush 40) (n := 2) (pc' := 69) (st' := [.int 40, .ref 136]) rfl rfl ?_
                  refine wp_s (i := .iload_n 1) (n := 1) (pc' := 70) (st' := [.int 2, .int 40, .ref 136]) rfl rfl ?_
                  refine wp_s (i := .imul) (n := 1) (pc' := 71) (st' := [.int 80, .ref 136]) rfl rfl ?_
                  refine wp_s (i := .iload 4) (n := 2) (pc' := 73) (st' := [.int 29, .int 80, .ref 136]) rfl rfl ?_
                  refine wp_s (i := .iadd) (n := 1) (pc' := 74) (st' := [.int 109, .ref 136]) rfl rfl ?_
                  refine wp_s (i := .iconst 0) (n := 1) (pc' := 75) (st' := [.int 0, .int 109, .ref 136]) rfl rfl ?_
                  refine wp_is (l' := (List.replicate 160 0)) (pc' := 76) rfl (mm_sn rfl (mm_sn rfl (mm_sn rfl hb_136))) rfl rfl (mm_sf (mm_sn rfl (mm_sn rfl (mm_sn rfl hb_136)))) rfl ?_
                  refine wp_s (i := .iinc 4 1) (n := 3) (pc' := 79) (ls' := [some (.ref 114), some (.int 2), some (.int w), some (.int u), some (.int 30)]) (st' := []) rfl rfl ?_
                  refine wp_s (i := .goto (-23)) (n := 3) (pc' := 56) (st' := []) rfl rfl ?_
                  refine wp_s (i := .iload 4) (n := 2) (pc' := 58) (st' := [.int 30]) rfl rfl ?_
                  refine wp_s (i := .bipush 40) (n := 2) (pc' := 60) (st' := [.int 40, .int 30]) rfl rfl ?_
                  refine wp_s (i := .if_icmp .ge 22) (n := 3) (pc' := 63) (st' := []) rfl rfl ?_
                  refine wp_s (i := .aload_n 0) (n := 1) (pc' := 64) (st' := [.ref 114]) rfl rfl ?_
                  refine wp_gf (idx := 74) (a := 114) (v := .ref 136) (pc' := 67) rfl rfl (mm_sn rfl (mm_sn rfl (mm_sn rfl hb_114))) rfl rfl ?_
                  refine wp_s (i := .bipush 40) (n := 2) (pc' := 69) (st' := [.int 40, .ref 136]) rfl rfl ?_
                  refine wp_s (i := .iload_n 1) (n := 1) (pc' := 70) (st' := [.int 2, .int 40, .ref 136]) rfl rfl ?_
                  refine wp_s (i := .imul) (n := 1) (pc' := 71) (st' := [.int 80, .ref 136]) rfl rfl ?_
                  refine wp_s (i := .iload 4) (n := 2) (pc' := 73) (st' := [.int 30, .int 80, .ref 136]) rfl rfl ?_
                  refine wp_s (i := .iadd) (n := 1) (pc' := 74) (st' := [.int 110, .ref 136]) rfl rfl ?_
                  refine wp_s (i := .iconst 0) (n := 1) (pc' := 75) (st' := [.int 0, .int 110, .ref 136]) rfl rfl ?_
                  refine wp_is (l' := (List.replicate 160 0)) (pc' := 76) rfl (mm_sn rfl (mm_sn rfl (mm_sn rfl hb_136))) rfl rfl (mm_sf (mm_sn rfl (mm_sn rfl (mm_sn rfl hb_136)))) rfl ?_
                  refine wp_s (i := .iinc 4 1) (n := 3) (pc' := 79) (ls' := [some (.ref 114), some (.int 2), some (.int w), some (.int u), some (.int 31)]) (st' := []) rfl rfl ?_
                  refine wp_s (i := .goto (-23)) (n := 3) (pc' := 56) (st' := []) rfl rfl ?_
                  refine wp_s (i := .iload 4) (n := 2) (pc' := 58) (st' := [.int 31]) rfl rfl ?_
                  refine wp_s (i := .bipush 40) (n := 2) (pc' := 60) (st' := [.int 40, .int 31]) rfl rfl ?_
                  refine wp_s (i := .if_icmp .ge 22) (n := 3) (pc' := 63) (st' := []) rfl rfl ?_
                  refine wp_s (i := .aload_n 0) (n := 1) (pc' := 64) (st' := [.ref 114]) rfl rfl ?_
                  refine wp_gf (idx := 74) (a := 114) (v := .ref 136) (pc' := 67) rfl rfl (mm_sn rfl (mm_sn rfl (mm_sn rfl hb_114))) rfl rfl ?_
                  refine wp_s (i := .bipush 40) (n := 2) (pc' := 69) (st' := [.int 40, .ref 136]) rfl rfl ?_
                  refine wp_s (i := .iload_n 1) (n := 1) (pc' := 70) (st' := [.int 2, .int 40, .ref 136]) rfl rfl ?_
                  refine wp_s (i := .imul) (n := 1) (pc' := 71) (st' := [.int 80, .ref 136]) rfl rfl ?_
                  refine wp_s (i := .iload 4) (n := 2) (pc' := 73) (st' := [.int 31, .int 80, .ref 136]) rfl rfl ?_
                  refine wp_s (i := .iadd) (n := 1) (pc' := 74) (st' := [.int 111, .ref 136]) rfl rfl ?_
                  refine wp_s (i := .iconst 0) (n := 1) (pc' := 75) (st' := [.int 0, .int 111, .ref 136]) rfl rfl ?_
                  refine wp_is (l' := (List.replicate 160 0)) (pc' := 76) rfl (mm_sn rfl (mm_sn rfl (mm_sn rfl hb_136))) rfl rfl (mm_sf (mm_sn rfl (mm_sn rfl (mm_sn rfl hb_136)))) rfl ?_
                  refine wp_s (i := .iinc 4 1) (n := 3) (pc' := 79) (ls' := [some (.ref 114), some (.int 2), some (.int w), some (.int u), some (.int 32)]) (st' := []) rfl rfl ?_
                  refine wp_s (i := .goto (-23)) (n := 3) (pc' := 56) (st' := []) rfl rfl ?_
                  refine wp_s (i := .iload 4) (n := 2) (pc' := 58) (st' := [.int 32]) rfl rfl ?_
                  refine wp_s (i := .bipush 40) (n := 2) (pc' := 60) (st' := [.int 40, .int 32]) rfl rfl ?_
                  refine wp_s (i := .if_icmp .ge 22) (n := 3) (pc' := 63) (st' := []) rfl rfl ?_
                  refine wp_s (i := .aload_n 0) (n := 1) (pc' := 64) (st' := [.ref 114]) rfl rfl ?_
                  refine wp_gf (idx := 74) (a := 114) (v := .ref 136) (pc' := 67) rfl rfl (mm_sn rfl (mm_sn rfl (mm_sn rfl hb_114))) rfl rfl ?_
                  refine wp_s (i := .bipush 40) (n := 2) (pc' := 69) (st' := [.int 40, .ref 136]) rfl rfl ?_
                  refine wp_s (i := .iload_n 1) (n := 1) (pc' := 70) (st' := [.int 2, .int 40, .ref 136]) rfl rfl ?_
                  refine wp_s (i := .imul) (n := 1) (pc' := 71) (st' := [.int 80, .ref 136]) rfl rfl ?_
                  refine wp_s (i := .iload 4) (n := 2) (pc' := 73) (st' := [.int 32, .int 80, .ref 136]) rfl rfl ?_
                  refine wp_s (i := .iadd) (n := 1) (pc' := 74) (st' := [.int 112, .ref 136]) rfl rfl ?_
                  refine wp_s (i := .iconst 0) (n := 1) (pc' := 75) (st' := [.int 0, .int 112, .ref 136]) rfl rfl ?_
                  refine wp_is (l' := (List.replicate 160 0)) (pc' := 76) rfl (mm_sn rfl (mm_sn rfl (mm_sn rfl hb_136))) rfl rfl (mm_sf (mm_sn rfl (mm_sn rfl (mm_sn rfl hb_136)))) rfl ?_
                  refine wp_s (i := .iinc 4 1) (n := 3) (pc' := 79) (ls' := [some (.ref 114), some (.int 2), some (.int w), some (.int u), some (.int 33)]) (st' := []) rfl rfl ?_
                  refine wp_s (i := .goto (-23)) (n := 3) (pc' := 56) (st' := []) rfl rfl ?_
                  refine wp_s (i := .iload 4) (n := 2) (pc' := 58) (st' := [.int 33]) rfl rfl ?_
                  refine wp_s (i := .bipush 40) (n := 2) (pc' := 60) (st' := [.int 40, .int 33]) rfl rfl ?_
                  refine wp_s (i := .if_icmp .ge 22) (n := 3) (pc' := 63) (st' := []) rfl rfl ?_
                  refine wp_s (i := .aload_n 0) (n := 1) (pc' := 64) (st' := [.ref 114]) rfl rfl ?_
                  refine wp_gf (idx := 74) (a := 114) (v := .ref 136) (pc' := 67) rfl rfl (mm_sn rfl (mm_sn rfl (mm_sn rfl hb_114))) rfl rfl ?_
                  refine wp_s (i := .bipush 40) (n := 2) (pc' := 69) (st' := [.int 40, .ref 136]) rfl rfl ?_
                  refine wp_s (i := .iload_n 1) (n := 1) (pc' := 70) (st' := [.int 2, .int 40, .ref 136]) rfl rfl ?_
                  refine wp_s (i := .imul) (n := 1) (pc' := 71) (st' := [.int 80, .ref 136]) rfl rfl ?_
                  refine wp_s (i := .iload 4) (n := 2) (pc' := 73) (st' := [.int 33, .int 80, .ref 136]) rfl rfl ?_
                  refine wp_s (i := .iadd) (n := 1) (pc' := 74) (st' := [.int 113, .ref 136]) rfl rfl ?_
                  refine wp_s (i := .iconst 0) (n := 1) (pc' := 75) (st' := [.int 0, .int 113, .ref 136]) rfl rfl ?_
                  refine wp_is (l' := (List.replicate 160 0)) (pc' := 76) rfl (mm_sn rfl (mm_sn rfl (mm_sn rfl hb_136))) rfl rfl (mm_sf (mm_sn rfl (mm_sn rfl (mm_sn rfl hb_136)))) rfl ?_
                  refine wp_s (i := .iinc 4 1) (n := 3) (pc' := 79) (ls' := [some (.ref 114), some (.int 2), some (.int w), some (.int u), some (.int 34)]) (st' := []) rfl rfl ?_
                  refine wp_s (i := .goto (-23)) (n := 3) (pc' := 56) (st' := []) rfl rfl ?_
                  refine wp_s (i := .iload 4) (n := 2) (pc' := 58) (st' := [.int 34]) rfl rfl ?_
                  refine wp_s (i := .bipush 40) (n := 2) (pc' := 60) (st' := [.int 40, .int 34]) rfl rfl ?_
                  refine wp_s (i := .if_icmp .ge 22) (n := 3) (pc' := 63) (st' := []) rfl rfl ?_
                  refine wp_s (i := .aload_n 0) (n := 1) (pc' := 64) (st' := [.ref 114]) rfl rfl ?_
                  refine wp_gf (idx := 74) (a := 114) (v := .ref 136) (pc' := 67) rfl rfl (mm_sn rfl (mm_sn rfl (mm_sn rfl hb_114))) rfl rfl ?_
                  refine wp_s (i := .bipush 40) (n := 2) (pc' := 69) (st' := [.int 40, .ref 136]) rfl rfl ?_
                  refine wp_s (i := .iload_n 1) (n := 1) (pc' := 70) (st' := [.int 2, .int 40, .ref 136]) rfl rfl ?_
                  refine wp_s (i := .imul) (n := 1) (pc' := 71) (st' := [.int 80, .ref 136]) rfl rfl ?_
                  refine wp_s (i := .iload 4) (n := 2) (pc' := 73) (st' := [.int 34, .int 80, .ref 136]) rfl rfl ?_
                  refine wp_s (i := .iadd) (n := 1) (pc' := 74) (st' := [.int 114, .ref 136]) rfl rfl ?_
                  refine wp_s (i := .iconst 0) (n := 1) (pc' := 75) (st' := [.int 0, .int 114, .ref 136]) rfl rfl ?_
                  refine wp_is (l' := (List.replicate 160 0)) (pc' := 76) rfl (mm_sn rfl (mm_sn rfl (mm_sn rfl hb_136))) rfl rfl (mm_sf (mm_sn rfl (mm_sn rfl (mm_sn rfl hb_136)))) rfl ?_
                  refine wp_s (i := .iinc 4 1) (n := 3) (pc' := 79) (ls' := [some (.ref 114), some (.int 2), some (.int w), some (.int u), some (.int 35)]) (st' := []) rfl rfl ?_
                  refine wp_s (i := .goto (-23)) (n := 3) (pc' := 56) (st' := []) rfl rfl ?_
                  refine wp_s (i := .iload 4) (n := 2) (pc' := 58) (st' := [.int 35]) rfl rfl ?_
                  refine wp_s (i := .bipush 40) (n := 2) (pc' := 60) (st' := [.int 40, .int 35]) rfl rfl ?_
                  refine wp_s (i := .if_icmp .ge 22) (n := 3) (pc' := 63) (st' := []) rfl rfl ?_
                  refine wp_s (i := .aload_n 0) (n := 1) (pc' := 64) (st' := [.ref 114]) rfl rfl ?_
                  refine wp_gf (idx := 74) (a := 114) (v := .ref 136) (pc' := 67) rfl rfl (mm_sn rfl (mm_sn rfl (mm_sn rfl hb_114))) rfl rfl ?_
                  refine wp_s (i := .bipush 40) (n := 2) (pc' := 69) (st' := [.int 40, .ref 136]) rfl rfl ?_
                  refine wp_s (i := .iload_n 1) (n := 1) (pc' := 70) (st' := [.int 2, .int 40, .ref 136]) rfl rfl ?_
                  refine wp_s (i := .imul) (n := 1) (pc' := 71) (st' := [.int 80, .ref 136]) rfl rfl ?_
                  refine wp_s (i := .iload 4) (n := 2) (pc' := 73) (st' := [.int 35, .int 80, .ref 136]) rfl rfl ?_
                  refine wp_s (i := .iadd) (n := 1) (pc' := 74) (st' := [.int 115, .ref 136]) rfl rfl ?_
                  refine wp_s (i := .iconst 0) (n := 1) (pc' := 75) (st' := [.int 0, .int 115, .ref 136]) rfl rfl ?_
                  refine wp_is (l' := (List.replicate 160 0)) (pc' := 76) rfl (mm_sn rfl (mm_sn rfl (mm_sn rfl hb_136))) rfl rfl (mm_sf (mm_sn rfl (mm_sn rfl (mm_sn rfl hb_136)))) rfl ?_
                  refine wp_s (i := .iinc 4 1) (n := 3) (pc' := 79) (ls' := [some (.ref 114), some (.int 2), some (.int w), some (.int u), some (.int 36)]) (st' := []) rfl rfl ?_
                  refine wp_s (i := .goto (-23)) (n := 3) (pc' := 56) (st' := []) rfl rfl ?_
                  refine wp_s (i := .iload 4) (n := 2) (pc' := 58) (st' := [.int 36]) rfl rfl ?_
                  refine wp_s (i := .bipush 40) (n := 2) (pc' := 60) (st' := [.int 40, .int 36]) rfl rfl ?_
                  refine wp_s (i := .if_icmp .ge 22) (n := 3) (pc' := 63) (st' := []) rfl rfl ?_
                  refine wp_s (i := .aload_n 0) (n := 1) (pc' := 64) (st' := [.ref 114]) rfl rfl ?_
                  refine wp_gf (idx := 74) (a := 114) (v := .ref 136) (pc' := 67) rfl rfl (mm_sn rfl (mm_sn rfl (mm_sn rfl hb_114))) rfl rfl ?_
                  refine wp_s (i := .bipush 40) (n := 2) (pc' := 69) (st' := [.int 40, .ref 136]) rfl rfl ?_
                  refine wp_s (i := .iload_n 1) (n := 1) (pc' := 70) (st' := [.int 2, .int 40, .ref 136]) rfl rfl ?_
                  refine wp_s (i := .imul) (n := 1) (pc' := 71) (st' := [.int 80, .ref 136]) rfl rfl ?_
                  refine wp_s (i := .iload 4) (n := 2) (pc' := 73) (st' := [.int 36, .int 80, .ref 136]) rfl rfl ?_
                  refine wp_s (i := .iadd) (n := 1) (pc' := 74) (st' := [.int 116, .ref 136]) rfl rfl ?_
                  refine wp_s (i := .iconst 0) (n := 1) (pc' := 75) (st' := [.int 0, .int 116, .ref 136]) rfl rfl ?_
                  refine wp_is (l' := (List.replicate 160 0)) (pc' := 76) rfl (mm_sn rfl (mm_sn rfl (mm_sn rfl hb_136))) rfl rfl (mm_sf (mm_sn rfl (mm_sn rfl (mm_sn rfl hb_136)))) rfl ?_
                  refine wp_s (i := .iinc 4 1) (n := 3) (pc' := 79) (ls' := [some (.ref 114), some (.int 2), some (.int w), some (.int u), some (.int 37)]) (st' := []) rfl rfl ?_
                  refine wp_s (i := .goto (-23)) (n := 3) (pc' := 56) (st' := []) rfl rfl ?_
                  refine wp_s (i := .iload 4) (n := 2) (pc' := 58) (st' := [.int 37]) rfl rfl ?_
                  refine wp_s (i := .bipush 40) (n := 2) (pc' := 60) (st' := [.int 40, .int 37]) rfl rfl ?_
                  refine wp_s (i := .if_icmp .ge 22) (n := 3) (pc' := 63) (st' := []) rfl rfl ?_
                  refine wp_s (i := .aload_n 0) (n := 1) (pc' := 64) (st' := [.ref 114]) rfl rfl ?_
                  refine wp_gf (idx := 74) (a := 114) (v := .ref 136) (pc' := 67) rfl rfl (mm_sn rfl (mm_sn rfl (mm_sn rfl hb_114))) rfl rfl ?_
                  refine wp_s (i := .bipush 40) (n := 2) (pc' := 69) (st' := [.int 40, .ref 136]) rfl rfl ?_
                  refine wp_s (i := .iload_n 1) (n := 1) (pc' := 70) (st' := [.int 2, .int 40, .ref 136]) rfl rfl ?_
                  refine wp_s (i := .imul) (n := 1) (pc' := 71) (st' := [.int 80, .ref 136]) rfl rfl ?_
                  refine wp_s (i := .iload 4) (n := 2) (pc' := 73) (st' := [.int 37, .int 80, .ref 136]) rfl rfl ?_
                  refine wp_s (i := .iadd) (n := 1) (pc' := 74) (st' := [.int 117, .ref 136]) rfl rfl ?_
                  refine wp_s (i := .iconst 0) (n := 1) (pc' := 75) (st' := [.int 0, .int 117, .ref 136]) rfl rfl ?_
                  refine wp_is (l' := (List.replicate 160 0)) (pc' := 76) rfl (mm_sn rfl (mm_sn rfl (mm_sn rfl hb_136))) rfl rfl (mm_sf (mm_sn rfl (mm_sn rfl (mm_sn rfl hb_136)))) rfl ?_
                  refine wp_s (i := .iinc 4 1) (n := 3) (pc' := 79) (ls' := [some (.ref 114), some (.int 2), some (.int w), some (.int u), some (.int 38)]) (st' := []) rfl rfl ?_
                  refine wp_s (i := .goto (-23)) (n := 3) (pc' := 56) (st' := []) rfl rfl ?_
                  refine wp_s (i := .iload 4) (n := 2) (pc' := 58) (st' := [.int 38]) rfl rfl ?_
                  refine wp_s (i := .bipush 40) (n := 2) (pc' := 60) (st' := [.int 40, .int 38]) rfl rfl ?_
                  refine wp_s (i := .if_icmp .ge 22) (n := 3) (pc' := 63) (st' := []) rfl rfl ?_
                  refine wp_s (i := .aload_n 0) (n := 1) (pc' := 64) (st' := [.ref 114]) rfl rfl ?_
                  refine wp_gf (idx := 74) (a := 114) (v := .ref 136) (pc' := 67) rfl rfl (mm_sn rfl (mm_sn rfl (mm_sn rfl hb_114))) rfl rfl ?_
                  refine wp_s (i := .bipush 40) (n := 2) (pc' := 69) (st' := [.int 40, .ref 136]) rfl rfl ?_
                  refine wp_s (i := .iload_n 1) (n := 1) (pc' := 70) (st' := [.int 2, .int 40, .ref 136]) rfl rfl ?_
                  refine wp_s (i := .imul) (n := 1) (pc' := 71) (st' := [.int 80, .ref 136]) rfl rfl ?_
                  refine wp_s (i := .iload 4) (n := 2) (pc' := 73) (st' := [.int 38, .int 80, .ref 136]) rfl rfl ?_
                  refine wp_s (i := .iadd) (n := 1) (pc' := 74) (st' := [.int 118, .ref 136]) rfl rfl ?_
                  refine wp_s (i := .iconst 0) (n := 1) (pc' := 75) (st' := [.int 0, .int 118, .ref 136]) rfl rfl ?_
                  refine wp_is (l' := (List.replicate 160 0)) (pc' := 76) rfl (mm_sn rfl (mm_sn rfl (mm_sn rfl hb_136))) rfl rfl (mm_sf (mm_sn rfl (mm_sn rfl (mm_sn rfl hb_136)))) rfl ?_
                  refine wp_s (i := .iinc 4 1) (n := 3) (pc' := 79) (ls' := [some (.ref 114), some (.int 2), some (.int w), some (.int u), some (.int 39)]) (st' := []) rfl rfl ?_
                  refine wp_s (i := .goto (-23)) (n := 3) (pc' := 56) (st' := []) rfl rfl ?_
                  refine wp_s (i := .iload 4) (n := 2) (pc' := 58) (st' := [.int 39]) rfl rfl ?_
                  refine wp_s (i := .bipush 40) (n := 2) (pc' := 60) (st' := [.int 40, .int 39]) rfl rfl ?_
                  refine wp_s (i := .if_icmp .ge 22) (n := 3) (pc' := 63) (st' := []) rfl rfl ?_
                  refine wp_s (i := .aload_n 0) (n := 1) (pc' := 64) (st' := [.ref 114]) rfl rfl ?_
                  refine wp_gf (idx := 74) (a := 114) (v := .ref 136) (pc' := 67) rfl rfl (mm_sn rfl (mm_sn rfl (mm_sn rfl hb_114))) rfl rfl ?_
                  refine wp_s (i := .bipush 40) (n := 2) (pc' := 69) (st' := [.int 40, .ref 136]) rfl rfl ?_
                  refine wp_s (i := .iload_n 1) (n := 1) (pc' := 70) (st' := [.int 2, .int 40, .ref 136]) rfl rfl ?_
                  refine wp_s (i := .imul) (n := 1) (pc' := 71) (st' := [.int 80, .ref 136]) rfl rfl ?_
                  refine wp_s (i := .iload 4) (n := 2) (pc' := 73) (st' := [.int 39, .int 80, .ref 136]) rfl rfl ?_
                  refine wp_s (i := .iadd) (n := 1) (pc' := 74) (st' := [.int 119, .ref 136]) rfl rfl ?_
                  refine wp_s (i := .iconst 0) (n := 1) (pc' := 75) (st' := [.int 0, .int 119, .ref 136]) rfl rfl ?_
                  refine wp_is (l' := (List.replicate 160 0)) (pc' := 76) rfl (mm_sn rfl (mm_sn rfl (mm_sn rfl hb_136))) rfl rfl (mm_sf (mm_sn rfl (mm_sn rfl (mm_sn rfl hb_136)))) rfl ?_
                  refine wp_s (i := .iinc 4 1) (n := 3) (pc' := 79) (ls' := [some (.ref 114), some (.int 2), some (.int w), some (.int u), some (.int 40)]) (st' := []) rfl rfl ?_
                  refine wp_s (i := .goto (-23)) (n := 3) (pc' := 56) (st' := []) rfl rfl ?_
                  refine wp_s (i := .iload 4) (n := 2) (pc' := 58) (st' := [.int 40]) rfl rfl ?_
                  refine wp_s (i := .bipush 40) (n := 2) (pc' := 60) (st' := [.int 40, .int 40]) rfl rfl ?_
                  refine wp_s (i := .if_icmp .ge 22) (n := 3) (pc' := 82) (st' := []) rfl rfl ?_
                  refine wp_s (i := .iconst 1) (n := 1) (pc' := 83) (st' := [.int 1]) rfl rfl ?_
                  refine wp_r (i := .ireturn) (n := 1) (v := some (.int 1)) rfl rfl ?_
                  exact ⟨rfl, (pk_okS (pk_okS (pk_okS pk_ok0 hb_110 rfl) (mm_sn rfl hb_134) rfl) (mm_sn rfl (mm_sn rfl hb_135)) rfl)⟩
                · skip
                  have q11 : (u).toInt < 0 := by have := mc_f_ge hc11; simpa using this
                  exfalso; omega
              · skip
                have q10 : (u).toInt > 40 := by have := mc_f_le hc10; simpa using this
                exfalso; omega
        · skip
          have q7 : (u).toInt < 0 := by have := mc_f_ge hc7; simpa using this
          show mm_Wp _ _ _ 26 _ _ _ _
          refine wp_s (i := .bipush (-14)) (n := 2) (pc' := 28) (st' := [.int (-14)]) rfl rfl ?_
          refine wp_r (i := .ireturn) (n := 1) (v := some (.int (-14))) rfl rfl ?_
          refine ⟨(-14), rfl, ⟨_, hb_114⟩, ?_⟩
          show mm_Wp X 12 mm_r187 0 [some (.ref 114), some (.int 2), some (.int w), some (.int u), none] [] _ _
          refine wp_s (i := .iload_n 1) (n := 1) (pc' := 1) (st' := [.int 2]) rfl rfl ?_
          refine wp_s (i := .i2l) (n := 1) (pc' := 2) (st' := [.long 2]) rfl rfl ?_
          refine wp_s (i := .lconst 0) (n := 1) (pc' := 3) (st' := [.long 0, .long 2]) rfl rfl ?_
          refine wp_s (i := .ldc2_w 285) (n := 3) (pc' := 6) (st' := [.long 3, .long 0, .long 2]) rfl rfl ?_
          refine wp_c (i := .invokestatic 81) (n := 3) (Dq := 11) (r' := mm_r120) (as := [.long 2, .long 0, .long 3]) (rest := []) (ls' := [some (.long 2), none, some (.long 0), none, some (.long 3), none]) rfl rfl rfl ?_
          refine wp_x 16 (v := some (.int 1)) (h' := hp_0) (mm_dec (by decide +kernel)) ?_
          show mm_Wp X 12 mm_r187 9 [some (.ref 114), some (.int 2), some (.int w), some (.int u), none] [.int 1] _ _
          refine wp_s (i := .ifCond .eq 21) (n := 3) (pc' := 12) (st' := []) rfl rfl ?_
          refine wp_s (i := .iload_n 2) (n := 1) (pc' := 13) (st' := [.int w]) rfl rfl ?_
          refine wp_s (i := .i2l) (n := 1) (pc' := 14) (st' := [.long ((w).toInt64)]) rfl rfl ?_
          refine wp_s (i := .lconst 0) (n := 1) (pc' := 15) (st' := [.long 0, .long ((w).toInt64)]) rfl rfl ?_
          refine wp_s (i := .ldc2_w 198) (n := 3) (pc' := 18) (st' := [.long 2, .long 0, .long ((w).toInt64)]) rfl rfl ?_
          refine wp_c (i := .invokestatic 81) (n := 3) (Dq := 11) (r' := mm_r120) (as := [.long ((w).toInt64), .long 0, .long 2]) (rest := []) (ls' := [some (.long ((w).toInt64)), none, some (.long 0), none, some (.long 2), none]) rfl rfl rfl ?_
          refine wp_s (i := .lload_n 0) (n := 1) (pc' := 1) (st' := [.long ((w).toInt64)]) rfl rfl ?_
          refine wp_s (i := .lload_n 2) (n := 1) (pc' := 2) (st' := [.long 0, .long ((w).toInt64)]) rfl rfl ?_
          refine wp_s (i := .lcmp) (n := 1) (pc' := 3) (st' := [.int (lg_cmp ((w).toInt64) 0)]) rfl rfl ?_
          refine wp_if (t := 17) (st := []) rfl rfl (fun hc12 => ?_) (fun hc12 => ?_)
          · skip
            have q12 : (w).toInt < 0 := by have := lc_t_lt hc12; simpa using this
            exfalso; omega
          · skip
            have q12 : (w).toInt ≥ 0 := by have := lc_f_lt hc12; simpa using this
            show mm_Wp _ _ _ 6 _ _ _ _
            refine wp_s (i := .lload_n 0) (n := 1) (pc' := 7) (st' := [.long ((w).toInt64)]) rfl rfl ?_
            refine wp_s (i := .lload 4) (n := 2) (pc' := 9) (st' := [.long 2, .long ((w).toInt64)]) rfl rfl ?_
            refine wp_s (i := .lcmp) (n := 1) (pc' := 10) (st' := [.int (lg_cmp ((w).toInt64) 2)]) rfl rfl ?_
            refine wp_if (t := 17) (st := []) rfl rfl (fun hc13 => ?_) (fun hc13 => ?_)
            · skip
              have q13 : (w).toInt > 2 := by have := lc_t_gt hc13; simpa using this
              exfalso; omega
            · skip
              have q13 : (w).toInt ≤ 2 := by have := lc_f_gt hc13; simpa using this
              show mm_Wp _ _ _ 13 _ _ _ _
              refine wp_s (i := .iconst 1) (n := 1) (pc' := 14) (st' := [.int 1]) rfl rfl ?_
              refine wp_s (i := .goto 4) (n := 3) (pc' := 18) (st' := [.int 1]) rfl rfl ?_
              refine wp_r (i := .ireturn) (n := 1) (v := some (.int 1)) rfl rfl ?_
              show mm_Wp X 12 mm_r187 21 [some (.ref 114), some (.int 2), some (.int w), some (.int u), none] [.int 1] _ _
              refine wp_s (i := .ifCond .eq 9) (n := 3) (pc' := 24) (st' := []) rfl rfl ?_
              refine wp_s (i := .iload_n 3) (n := 1) (pc' := 25) (st' := [.int u]) rfl rfl ?_
              refine wp_s (i := .bipush 40) (n := 2) (pc' := 27) (st' := [.int 40, .int u]) rfl rfl ?_
              refine wp_ic (t := 32) (st := []) rfl rfl (fun hc14 => ?_) (fun hc14 => ?_)
              · skip
                have q14 : (u).toInt ≤ 40 := by have := mc_t_le hc14; simpa using this
                show mm_Wp _ _ _ 32 _ _ _ _
                refine wp_s (i := .iload_n 3) (n := 1) (pc' := 33) (st' := [.int u]) rfl rfl ?_
                refine wp_if (t := 39) (st := []) rfl rfl (fun hc15 => ?_) (fun hc15 => ?_)
                · skip
                  have q15 : (u).toInt ≥ 0 := by have := mc_t_ge hc15; simpa using this
                  exfalso; omega
                · skip
                  have q15 : (u).toInt < 0 := by have := mc_f_ge hc15; simpa using this
                  show mm_Wp _ _ _ 36 _ _ _ _
                  refine wp_s (i := .bipush (-14)) (n := 2) (pc' := 38) (st' := [.int (-14)]) rfl rfl ?_
                  refine wp_r (i := .ireturn) (n := 1) (v := some (.int (-14))) rfl rfl ?_
                  exact ⟨rfl, pk_ok0⟩
              · skip
                have q14 : (u).toInt > 40 := by have := mc_f_le hc14; simpa using this
                exfalso; omega
      · skip
        have q6 : (u).toInt > 40 := by have := mc_f_le hc6; simpa using this
        show mm_Wp _ _ _ 20 _ _ _ _
        refine wp_s (i := .iconst (-1)) (n := 1) (pc' := 21) (st' := [.int (-1)]) rfl rfl ?_
        refine wp_r (i := .ireturn) (n := 1) (v := some (.int (-1))) rfl rfl ?_
        refine ⟨(-1), rfl, ⟨_, hb_114⟩, ?_⟩
        show mm_Wp X 12 mm_r187 0 [some (.ref 114), some (.int 2), some (.int w), some (.int u), none] [] _ _
        refine wp_s (i := .iload_n 1) (n := 1) (pc' := 1) (st' := [.int 2]) rfl rfl ?_
        refine wp_s (i := .i2l) (n := 1) (pc' := 2) (st' := [.long 2]) rfl rfl ?_
        refine wp_s (i := .lconst 0) (n := 1) (pc' := 3) (st' := [.long 0, .long 2]) rfl rfl ?_
        refine wp_s (i := .ldc2_w 285) (n := 3) (pc' := 6) (st' := [.long 3, .long 0, .long 2]) rfl rfl ?_
        refine wp_c (i := .invokestatic 81) (n := 3) (Dq := 11) (r' := mm_r120) (as := [.long 2, .long 0, .long 3]) (rest := []) (ls' := [some (.long 2), none, some (.long 0), none, some (.long 3), none]) rfl rfl rfl ?_
        refine wp_x 16 (v := some (.int 1)) (h' := hp_0) (mm_dec (by decide +kernel)) ?_
        show mm_Wp X 12 mm_r187 9 [some (.ref 114), some (.int 2), some (.int w), some (.int u), none] [.int 1] _ _
        refine wp_s (i := .ifCond .eq 21) (n := 3) (pc' := 12) (st' := []) rfl rfl ?_
        refine wp_s (i := .iload_n 2) (n := 1) (pc' := 13) (st' := [.int w]) rfl rfl ?_
        refine wp_s (i := .i2l) (n := 1) (pc' := 14) (st' := [.long ((w).toInt64)]) rfl rfl ?_
        refine wp_s (i := .lconst 0) (n := 1) (pc' := 15) (st' := [.long 0, .long ((w).toInt64)]) rfl rfl ?_
        refine wp_s (i := .ldc2_w 198) (n := 3) (pc' := 18) (st' := [.long 2, .long 0, .long ((w).toInt64)]) rfl rfl ?_
        refine wp_c (i := .invokestatic 81) (n := 3) (Dq := 11) (r' := mm_r120) (as := [.long ((w).toInt64), .long 0, .long 2]) (rest := []) (ls' := [some (.long ((w).toInt64)), none, some (.long 0), none, some (.long 2), none]) rfl rfl rfl ?_
        refine wp_s (i := .lload_n 0) (n := 1) (pc' := 1) (st' := [.long ((w).toInt64)]) rfl rfl ?_
        refine wp_s (i := .lload_n 2) (n := 1) (pc' := 2) (st' := [.long 0, .long ((w).toInt64)]) rfl rfl ?_
        refine wp_s (i := .lcmp) (n := 1) (pc' := 3) (st' := [.int (lg_cmp ((w).toInt64) 0)]) rfl rfl ?_
        refine wp_if (t := 17) (st := []) rfl rfl (fun hc16 => ?_) (fun hc16 => ?_)
        · skip
          have q16 : (w).toInt < 0 := by have := lc_t_lt hc16; simpa using this
          exfalso; omega
        · skip
          have q16 : (w).toInt ≥ 0 := by have := lc_f_lt hc16; simpa using this
          show mm_Wp _ _ _ 6 _ _ _ _
          refine wp_s (i := .lload_n 0) (n := 1) (pc' := 7) (st' := [.long ((w).toInt64)]) rfl rfl ?_
          refine wp_s (i := .lload 4) (n := 2) (pc' := 9) (st' := [.long 2, .long ((w).toInt64)]) rfl rfl ?_
          refine wp_s (i := .lcmp) (n := 1) (pc' := 10) (st' := [.int (lg_cmp ((w).toInt64) 2)]) rfl rfl ?_
          refine wp_if (t := 17) (st := []) rfl rfl (fun hc17 => ?_) (fun hc17 => ?_)
          · skip
            have q17 : (w).toInt > 2 := by have := lc_t_gt hc17; simpa using this
            exfalso; omega
          · skip
            have q17 : (w).toInt ≤ 2 := by have := lc_f_gt hc17; simpa using this
            show mm_Wp _ _ _ 13 _ _ _ _
            refine wp_s (i := .iconst 1) (n := 1) (pc' := 14) (st' := [.int 1]) rfl rfl ?_
            refine wp_s (i := .goto 4) (n := 3) (pc' := 18) (st' := [.int 1]) rfl rfl ?_
            refine wp_r (i := .ireturn) (n := 1) (v := some (.int 1)) rfl rfl ?_
            show mm_Wp X 12 mm_r187 21 [some (.ref 114), some (.int 2), some (.int w), some (.int u), none] [.int 1] _ _
            refine wp_s (i := .ifCond .eq 9) (n := 3) (pc' := 24) (st' := []) rfl rfl ?_
            refine wp_s (i := .iload_n 3) (n := 1) (pc' := 25) (st' := [.int u]) rfl rfl ?_
            refine wp_s (i := .bipush 40) (n := 2) (pc' := 27) (st' := [.int 40, .int u]) rfl rfl ?_
            refine wp_ic (t := 32) (st := []) rfl rfl (fun hc18 => ?_) (fun hc18 => ?_)
            · skip
              have q18 : (u).toInt ≤ 40 := by have := mc_t_le hc18; simpa using this
              exfalso; omega
            · skip
              have q18 : (u).toInt > 40 := by have := mc_f_le hc18; simpa using this
              show mm_Wp _ _ _ 30 _ _ _ _
              refine wp_s (i := .iconst (-1)) (n := 1) (pc' := 31) (st' := [.int (-1)]) rfl rfl ?_
              refine wp_r (i := .ireturn) (n := 1) (v := some (.int (-1))) rfl rfl ?_
              exact ⟨rfl, pk_ok0⟩
set_option maxRecDepth 20000 in
set_option maxHeartbeats 4000000 in
theorem pk_33_3 (X : Option (List Int32)) (w u : Int32) : mm_Wp X 12 mm_r98 0 [some (.ref 0), some (.int 3), some (.int w), some (.int u)] [] hp_0 (fun v1 h1 => ∃ x : Int32, v1 = some (.int x) ∧ (∃ fs, h1[114]? = some (.inr (10, fs))) ∧ mm_Wp X 12 mm_r187 0 [some (.ref 114), some (.int 3), some (.int w), some (.int u), none] [] h1 (fun v2 h2 => v2 = some (.int x) ∧ pk_ok h2)) := by
  refine wp_s (i := .iload_n 1) (n := 1) (pc' := 1) (st' := [.int 3]) rfl rfl ?_
  refine wp_c (i := .invokestatic 301) (n := 3) (Dq := 11) (r' := mm_r107) (as := [.int 3]) (rest := []) (ls' := [some (.int 3)]) rfl rfl rfl ?_
  refine wp_x 13 (v := some (.int 1)) (h' := hp_0) (mm_dec (by decide +kernel)) ?_
  show mm_Wp X 12 mm_r98 4 [some (.ref 0), some (.int 3), some (.int w), some (.int u)] [.int 1] _ _
  refine wp_s (i := .ifCond .eq 16) (n := 3) (pc' := 7) (st' := []) rfl rfl ?_
  refine wp_s (i := .iload_n 2) (n := 1) (pc' := 8) (st' := [.int w]) rfl rfl ?_
  refine wp_c (i := .invokestatic 304) (n := 3) (Dq := 11) (r' := mm_r108) (as := [.int w]) (rest := []) (ls' := [some (.int w)]) rfl rfl rfl ?_
  refine wp_s (i := .iload_n 0) (n := 1) (pc' := 1) (st' := [.int w]) rfl rfl ?_
  refine wp_if (t := 13) (st := []) rfl rfl (fun hc1 => ?_) (fun hc1 => ?_)
  · skip
    have q1 : (w).toInt < 0 := by have := mc_t_lt hc1; simpa using this
    show mm_Wp _ _ _ 13 _ _ _ _
    refine wp_s (i := .iconst 0) (n := 1) (pc' := 14) (st' := [.int 0]) rfl rfl ?_
    refine wp_r (i := .ireturn) (n := 1) (v := some (.int 0)) rfl rfl ?_
    show mm_Wp X 12 mm_r98 11 [some (.ref 0), some (.int 3), some (.int w), some (.int u)] [.int 0] _ _
    refine wp_s (i := .ifCond .eq 9) (n := 3) (pc' := 20) (st' := []) rfl rfl ?_
    refine wp_s (i := .iconst (-1)) (n := 1) (pc' := 21) (st' := [.int (-1)]) rfl rfl ?_
    refine wp_r (i := .ireturn) (n := 1) (v := some (.int (-1))) rfl rfl ?_
    refine ⟨(-1), rfl, ⟨_, hb_114⟩, ?_⟩
    show mm_Wp X 12 mm_r187 0 [some (.ref 114), some (.int 3), some (.int w), some (.int u), none] [] _ _
    refine wp_s (i := .iload_n 1) (n := 1) (pc' := 1) (st' := [.int 3]) rfl rfl ?_
    refine wp_s (i := .i2l) (n := 1) (pc' := 2) (st' := [.long 3]) rfl rfl ?_
    refine wp_s (i := .lconst 0) (n := 1) (pc' := 3) (st' := [.long 0, .long 3]) rfl rfl ?_
    refine wp_s (i := .ldc2_w 285) (n := 3) (pc' := 6) (st' := [.long 3, .long 0, .long 3]) rfl rfl ?_
    refine wp_c (i := .invokestatic 81) (n := 3) (Dq := 11) (r' := mm_r120) (as := [.long 3, .long 0, .long 3]) (rest := []) (ls' := [some (.long 3), none, some (.long 0), none, some (.long 3), none]) rfl rfl rfl ?_
    refine wp_x 16 (v := some (.int 1)) (h' := hp_0) (mm_dec (by decide +kernel)) ?_
    show mm_Wp X 12 mm_r187 9 [some (.ref 114), some (.int 3), some (.int w), some (.int u), none] [.int 1] _ _
    refine wp_s (i := .ifCond .eq 21) (n := 3) (pc' := 12) (st' := []) rfl rfl ?_
    refine wp_s (i := .iload_n 2) (n := 1) (pc' := 13) (st' := [.int w]) rfl rfl ?_
    refine wp_s (i := .i2l) (n := 1) (pc' := 14) (st' := [.long ((w).toInt64)]) rfl rfl ?_
    refine wp_s (i := .lconst 0) (n := 1) (pc' := 15) (st' := [.long 0, .long ((w).toInt64)]) rfl rfl ?_
    refine wp_s (i := .ldc2_w 198) (n := 3) (pc' := 18) (st' := [.long 2, .long 0, .long ((w).toInt64)]) rfl rfl ?_
    refine wp_c (i := .invokestatic 81) (n := 3) (Dq := 11) (r' := mm_r120) (as := [.long ((w).toInt64), .long 0, .long 2]) (rest := []) (ls' := [some (.long ((w).toInt64)), none, some (.long 0), none, some (.long 2), none]) rfl rfl rfl ?_
    refine wp_s (i := .lload_n 0) (n := 1) (pc' := 1) (st' := [.long ((w).toInt64)]) rfl rfl ?_
    refine wp_s (i := .lload_n 2) (n := 1) (pc' := 2) (st' := [.long 0, .long ((w).toInt64)]) rfl rfl ?_
    refine wp_s (i := .lcmp) (n := 1) (pc' := 3) (st' := [.int (lg_cmp ((w).toInt64) 0)]) rfl rfl ?_
    refine wp_if (t := 17) (st := []) rfl rfl (fun hc2 => ?_) (fun hc2 => ?_)
    · skip
      have q2 : (w).toInt < 0 := by have := lc_t_lt hc2; simpa using this
      show mm_Wp _ _ _ 17 _ _ _ _
      refine wp_s (i := .iconst 0) (n := 1) (pc' := 18) (st' := [.int 0]) rfl rfl ?_
      refine wp_r (i := .ireturn) (n := 1) (v := some (.int 0)) rfl rfl ?_
      show mm_Wp X 12 mm_r187 21 [some (.ref 114), some (.int 3), some (.int w), some (.int u), none] [.int 0] _ _
      refine wp_s (i := .ifCond .eq 9) (n := 3) (pc' := 30) (st' := []) rfl rfl ?_
      refine wp_s (i := .iconst (-1)) (n := 1) (pc' := 31) (st' := [.int (-1)]) rfl rfl ?_
      refine wp_r (i := .ireturn) (n := 1) (v := some (.int (-1))) rfl rfl ?_
      exact ⟨rfl, pk_ok0⟩
    · skip
      have q2 : (w).toInt ≥ 0 := by have := lc_f_lt hc2; simpa using this
      exfalso; omega
  · skip
    have q1 : (w).toInt ≥ 0 := by have := mc_f_lt hc1; simpa using this
    show mm_Wp _ _ _ 4 _ _ _ _
    refine wp_s (i := .iload_n 0) (n := 1) (pc' := 5) (st' := [.int w]) rfl rfl ?_
    refine wp_s (i := .iconst 3) (n := 1) (pc' := 6) (st' := [.int 3, .int w]) rfl rfl ?_
    refine wp_ic (t := 13) (st := []) rfl rfl (fun hc3 => ?_) (fun hc3 => ?_)
    · skip
      have q3 : (w).toInt ≥ 3 := by have := mc_t_ge hc3; simpa using this
      show mm_Wp _ _ _ 13 _ _ _ _
      refine wp_s (i := .iconst 0) (n := 1) (pc' := 14) (st' := [.int 0]) rfl rfl ?_
      refine wp_r (i := .ireturn) (n := 1) (v := some (.int 0)) rfl rfl ?_
      show mm_Wp X 12 mm_r98 11 [some (.ref 0), some (.int 3), some (.int w), some (.int u)] [.int 0] _ _
      refine wp_s (i := .ifCond .eq 9) (n := 3) (pc' := 20) (st' := []) rfl rfl ?_
      refine wp_s (i := .iconst (-1)) (n := 1) (pc' := 21) (st' := [.int (-1)]) rfl rfl ?_
      refine wp_r (i := .ireturn) (n := 1) (v := some (.int (-1))) rfl rfl ?_
      refine ⟨(-1), rfl, ⟨_, hb_114⟩, ?_⟩
      show mm_Wp X 12 mm_r187 0 [some (.ref 114), some (.int 3), some (.int w), some (.int u), none] [] _ _
      refine wp_s (i := .iload_n 1) (n := 1) (pc' := 1) (st' := [.int 3]) rfl rfl ?_
      refine wp_s (i := .i2l) (n := 1) (pc' := 2) (st' := [.long 3]) rfl rfl ?_
      refine wp_s (i := .lconst 0) (n := 1) (pc' := 3) (st' := [.long 0, .long 3]) rfl rfl ?_
      refine wp_s (i := .ldc2_w 285) (n := 3) (pc' := 6) (st' := [.long 3, .long 0, .long 3]) rfl rfl ?_
      refine wp_c (i := .invokestatic 81) (n := 3) (Dq := 11) (r' := mm_r120) (as := [.long 3, .long 0, .long 3]) (rest := []) (ls' := [some (.long 3), none, some (.long 0), none, some (.long 3), none]) rfl rfl rfl ?_
      refine wp_x 16 (v := some (.int 1)) (h' := hp_0) (mm_dec (by decide +kernel)) ?_
      show mm_Wp X 12 mm_r187 9 [some (.ref 114), some (.int 3), some (.int w), some (.int u), none] [.int 1] _ _
      refine wp_s (i := .ifCond .eq 21) (n := 3) (pc' := 12) (st' := []) rfl rfl ?_
      refine wp_s (i := .iload_n 2) (n := 1) (pc' := 13) (st' := [.int w]) rfl rfl ?_
      refine wp_s (i := .i2l) (n := 1) (pc' := 14) (st' := [.long ((w).toInt64)]) rfl rfl ?_
      refine wp_s (i := .lconst 0) (n := 1) (pc' := 15) (st' := [.long 0, .long ((w).toInt64)]) rfl rfl ?_
      refine wp_s (i := .ldc2_w 198) (n := 3) (pc' := 18) (st' := [.long 2, .long 0, .long ((w).toInt64)]) rfl rfl ?_
      refine wp_c (i := .invokestatic 81) (n := 3) (Dq := 11) (r' := mm_r120) (as := [.long ((w).toInt64), .long 0, .long 2]) (rest := []) (ls' := [some (.long ((w).toInt64)), none, some (.long 0), none, some (.long 2), none]) rfl rfl rfl ?_
      refine wp_s (i := .lload_n 0) (n := 1) (pc' := 1) (st' := [.long ((w).toInt64)]) rfl rfl ?_
      refine wp_s (i := .lload_n 2) (n := 1) (pc' := 2) (st' := [.long 0, .long ((w).toInt64)]) rfl rfl ?_
      refine wp_s (i := .lcmp) (n := 1) (pc' := 3) (st' := [.int (lg_cmp ((w).toInt64) 0)]) rfl rfl ?_
      refine wp_if (t := 17) (st := []) rfl rfl (fun hc4 => ?_) (fun hc4 => ?_)
      · skip
        have q4 : (w).toInt < 0 := by have := lc_t_lt hc4; simpa using this
        exfalso; omega
      · skip
        have q4 : (w).toInt ≥ 0 := by have := lc_f_lt hc4; simpa using this
        show mm_Wp _ _ _ 6 _ _ _ _
        refine wp_s (i := .lload_n 0) (n := 1) (pc' := 7) (st' := [.long ((w).toInt64)]) rfl rfl ?_
        refine wp_s (i := .lload 4) (n := 2) (pc' := 9) (st' := [.long 2, .long ((w).toInt64)]) rfl rfl ?_
        refine wp_s (i := .lcmp) (n := 1) (pc' := 10) (st' := [.int (lg_cmp ((w).toInt64) 2)]) rfl rfl ?_
        refine wp_if (t := 17) (st := []) rfl rfl (fun hc5 => ?_) (fun hc5 => ?_)
        · skip
          have q5 : (w).toInt > 2 := by have := lc_t_gt hc5; simpa using this
          show mm_Wp _ _ _ 17 _ _ _ _
          refine wp_s (i := .iconst 0) (n := 1) (pc' := 18) (st' := [.int 0]) rfl rfl ?_
          refine wp_r (i := .ireturn) (n := 1) (v := some (.int 0)) rfl rfl ?_
          show mm_Wp X 12 mm_r187 21 [some (.ref 114), some (.int 3), some (.int w), some (.int u), none] [.int 0] _ _
          refine wp_s (i := .ifCond .eq 9) (n := 3) (pc' := 30) (st' := []) rfl rfl ?_
          refine wp_s (i := .iconst (-1)) (n := 1) (pc' := 31) (st' := [.int (-1)]) rfl rfl ?_
          refine wp_r (i := .ireturn) (n := 1) (v := some (.int (-1))) rfl rfl ?_
          exact ⟨rfl, pk_ok0⟩
        · skip
          have q5 : (w).toInt ≤ 2 := by have := lc_f_gt hc5; simpa using this
          exfalso; omega
    · skip
      have q3 : (w).toInt < 3 := by have := mc_f_ge hc3; simpa using this
      show mm_Wp _ _ _ 9 _ _ _ _
      refine wp_s (i := .iconst 1) (n := 1) (pc' := 10) (st' := [.int 1]) rfl rfl ?_
      refine wp_s (i := .goto 4) (n := 3) (pc' := 14) (st' := [.int 1]) rfl rfl ?_
      refine wp_r (i := .ireturn) (n := 1) (v := some (.int 1)) rfl rfl ?_
      show mm_Wp X 12 mm_r98 11 [some (.ref 0), some (.int 3), some (.int w), some (.int u)] [.int 1] _ _
      refine wp_s (i := .ifCond .eq 9) (n := 3) (pc' := 14) (st' := []) rfl rfl ?_
      refine wp_s (i := .iload_n 3) (n := 1) (pc' := 15) (st' := [.int u]) rfl rfl ?_
      refine wp_s (i := .bipush 40) (n := 2) (pc' := 17) (st' := [.int 40, .int u]) rfl rfl ?_
      refine wp_ic (t := 22) (st := []) rfl rfl (fun hc6 => ?_) (fun hc6 => ?_)
      · skip
        have q6 : (u).toInt ≤ 40 := by have := mc_t_le hc6; simpa using this
        show mm_Wp _ _ _ 22 _ _ _ _
        refine wp_s (i := .iload_n 3) (n := 1) (pc' := 23) (st' := [.int u]) rfl rfl ?_
        refine wp_if (t := 29) (st := []) rfl rfl (fun hc7 => ?_) (fun hc7 => ?_)
        · skip
          have q7 : (u).toInt ≥ 0 := by have := mc_t_ge hc7; simpa using this
          show mm_Wp _ _ _ 29 _ _ _ _
          refine wp_s (i := .aload_n 0) (n := 1) (pc' := 30) (st' := [.ref 0]) rfl rfl ?_
          refine wp_gf (idx := 64) (a := 0) (v := .ref 67) (pc' := 33) rfl rfl hb_0 rfl rfl ?_
          refine wp_s (i := .iload_n 1) (n := 1) (pc' := 34) (st' := [.int 3, .ref 67]) rfl rfl ?_
          refine wp_aa (b := 112) (pc' := 35) rfl (by decide) hb_67 rfl rfl rfl ?_
          refine wp_s (i := .iload_n 2) (n := 1) (pc' := 36) (st' := [.int w, .ref 112]) rfl rfl ?_
          refine wp_s (i := .iload_n 3) (n := 1) (pc' := 37) (st' := [.int u, .int w, .ref 112]) rfl rfl ?_
          refine wp_c (i := .invokevirtual 307) (n := 3) (Dq := 11) (r' := mm_r59) (as := [.ref 112, .int w, .int u]) (rest := []) (ls' := [some (.ref 112), some (.int w), some (.int u)]) rfl rfl rfl ?_
          refine wp_s (i := .aload_n 0) (n := 1) (pc' := 1) (st' := [.ref 112]) rfl rfl ?_
          refine wp_gf (idx := 9) (a := 112) (v := .ref 113) (pc' := 4) rfl rfl hb_112 rfl rfl ?_
          refine wp_s (i := .iconst 0) (n := 1) (pc' := 5) (st' := [.int 0, .ref 113]) rfl rfl ?_
          refine wp_c (i := .invokestatic 19) (n := 3) (Dq := 10) (r' := mm_r194) (as := [.ref 113, .int 0]) (rest := []) (ls' := [some (.ref 113), some (.int 0), none, none]) rfl rfl rfl ?_
          refine wp_x 374 (v := none) (h' := hp_0) (mm_dec (by decide +kernel)) ?_
          show mm_Wp X 11 mm_r59 8 [some (.ref 112), some (.int w), some (.int u)] [] _ _
          refine wp_s (i := .aload_n 0) (n := 1) (pc' := 9) (st' := [.ref 112]) rfl rfl ?_
          refine wp_s (i := .iload_n 1) (n := 1) (pc' := 10) (st' := [.int w, .ref 112]) rfl rfl ?_
          refine wp_pf (idx := 25) (a := 112) (fs' := [.ref 113, .int w, .int (-1)]) (pc' := 13) rfl rfl rfl hb_112 rfl rfl rfl rfl rfl ?_
          refine wp_s (i := .aload_n 0) (n := 1) (pc' := 14) (st' := [.ref 112]) rfl rfl ?_
          refine wp_s (i := .iload_n 2) (n := 1) (pc' := 15) (st' := [.int u, .ref 112]) rfl rfl ?_
          refine wp_pf (idx := 15) (a := 112) (fs' := [.ref 113, .int w, .int u]) (pc' := 18) rfl rfl rfl (mm_ss hb_112) rfl rfl rfl mm_rs2 rfl ?_
          refine wp_r (i := .return_) (n := 1) (v := none) rfl rfl ?_
          show mm_Wp X 12 mm_r98 40 [some (.ref 0), some (.int 3), some (.int w), some (.int u)] [] _ _
          refine wp_s (i := .iconst 1) (n := 1) (pc' := 41) (st' := [.int 1]) rfl rfl ?_
          refine wp_r (i := .ireturn) (n := 1) (v := some (.int 1)) rfl rfl ?_
          refine ⟨1, rfl, ⟨_, (mm_sn rfl hb_114)⟩, ?_⟩
          show mm_Wp X 12 mm_r187 0 [some (.ref 114), some (.int 3), some (.int w), some (.int u), none] [] _ _
          refine wp_s (i := .iload_n 1) (n := 1) (pc' := 1) (st' := [.int 3]) rfl rfl ?_
          refine wp_s (i := .i2l) (n := 1) (pc' := 2) (st' := [.long 3]) rfl rfl ?_
          refine wp_s (i := .lconst 0) (n := 1) (pc' := 3) (st' := [.long 0, .long 3]) rfl rfl ?_
          refine wp_s (i := .ldc2_w 285) (n := 3) (pc' := 6) (st' := [.long 3, .long 0, .long 3]) rfl rfl ?_
          refine wp_c (i := .invokestatic 81) (n := 3) (Dq := 11) (r' := mm_r120) (as := [.long 3, .long 0, .long 3]) (rest := []) (ls' := [some (.long 3), none, some (.long 0), none, some (.long 3), none]) rfl rfl rfl ?_
          refine wp_s (i := .lload_n 0) (n := 1) (pc' := 1) (st' := [.long 3]) rfl rfl ?_
          refine wp_s (i := .lload_n 2) (n := 1) (pc' := 2) (st' := [.long 0, .long 3]) rfl rfl ?_
          refine wp_s (i := .lcmp) (n := 1) (pc' := 3) (st' := [.int 1]) rfl rfl ?_
          refine wp_s (i := .ifCond .lt 14) (n := 3) (pc' := 6) (st' := []) rfl rfl ?_
          refine wp_s (i := .lload_n 0) (n := 1) (pc' := 7) (st' := [.long 3]) rfl rfl ?_
          refine wp_s (i := .lload 4) (n := 2) (pc' := 9) (st' := [.long 3, .long 3]) rfl rfl ?_
          refine wp_s (i := .lcmp) (n := 1) (pc' := 10) (st' := [.int 0]) rfl rfl ?_
          refine wp_s (i := .ifCond .gt 7) (n := 3) (pc' := 13) (st' := []) rfl rfl ?_
          refine wp_s (i := .iconst 1) (n := 1) (pc' := 14) (st' := [.int 1]) rfl rfl ?_
          refine wp_s (i := .goto 4) (n := 3) (pc' := 18) (st' := [.int 1]) rfl rfl ?_
          refine wp_r (i := .ireturn) (n := 1) (v := some (.int 1)) rfl rfl ?_
          show mm_Wp X 12 mm_r187 9 [some (.ref 114), some (.int 3), some (.int w), some (.int u), none] [.int 1] _ _
          refine wp_s (i := .ifCond .eq 21) (n := 3) (pc' := 12) (st' := []) rfl rfl ?_
          refine wp_s (i := .iload_n 2) (n := 1) (pc' := 13) (st' := [.int w]) rfl rfl ?_
          refine wp_s (i := .i2l) (n := 1) (pc' := 14) (st' := [.long ((w).toInt64)]) rfl rfl ?_
          refine wp_s (i := .lconst 0) (n := 1) (pc' := 15) (st' := [.long 0, .long ((w).toInt64)]) rfl rfl ?_
          refine wp_s (i := .ldc2_w 198) (n := 3) (pc' := 18) (st' := [.long 2, .long 0, .long ((w).toInt64)]) rfl rfl ?_
          refine wp_c (i := .invokestatic 81) (n := 3) (Dq := 11) (r' := mm_r120) (as := [.long ((w).toInt64), .long 0, .long 2]) (rest := []) (ls' := [some (.long ((w).toInt64)), none, some (.long 0), none, some (.long 2), none]) rfl rfl rfl ?_
          refine wp_s (i := .lload_n 0) (n := 1) (pc' := 1) (st' := [.long ((w).toInt64)]) rfl rfl ?_
          refine wp_s (i := .lload_n 2) (n := 1) (pc' := 2) (st' := [.long 0, .long ((w).toInt64)]) rfl rfl ?_
          refine wp_s (i := .lcmp) (n := 1) (pc' := 3) (st' := [.int (lg_cmp ((w).toInt64) 0)]) rfl rfl ?_
          refine wp_if (t := 17) (st := []) rfl rfl (fun hc8 => ?_) (fun hc8 => ?_)
          · skip
            have q8 : (w).toInt < 0 := by have := lc_t_lt hc8; simpa using this
            exfalso; omega
          · skip
            have q8 : (w).toInt ≥ 0 := by have := lc_f_lt hc8; simpa using this
            show mm_Wp _ _ _ 6 _ _ _ _
            refine wp_s (i := .lload_n 0) (n := 1) (pc' := 7) (st' := [.long ((w).toInt64)]) rfl rfl ?_
            refine wp_s (i := .lload 4) (n := 2) (pc' := 9) (st' := [.long 2, .long ((w).toInt64)]) rfl rfl ?_
            refine wp_s (i := .lcmp) (n := 1) (pc' := 10) (st' := [.int (lg_cmp ((w).toInt64) 2)]) rfl rfl ?_
            refine wp_if (t := 17) (st := []) rfl rfl (fun hc9 => ?_) (fun hc9 => ?_)
            · skip
              have q9 : (w).toInt > 2 := by have := lc_t_gt hc9; simpa using this
              exfalso; omega
            · skip
              have q9 : (w).toInt ≤ 2 := by have := lc_f_gt hc9; simpa using this
              show mm_Wp _ _ _ 13 _ _ _ _
              refine wp_s (i := .iconst 1) (n := 1) (pc' := 14) (st' := [.int 1]) rfl rfl ?_
              refine wp_s (i := .goto 4) (n := 3) (pc' := 18) (st' := [.int 1]) rfl rfl ?_
              refine wp_r (i := .ireturn) (n := 1) (v := some (.int 1)) rfl rfl ?_
              show mm_Wp X 12 mm_r187 21 [some (.ref 114), some (.int 3), some (.int w), some (.int u), none] [.int 1] _ _
              refine wp_s (i := .ifCond .eq 9) (n := 3) (pc' := 24) (st' := []) rfl rfl ?_
              refine wp_s (i := .iload_n 3) (n := 1) (pc' := 25) (st' := [.int u]) rfl rfl ?_
              refine wp_s (i := .bipush 40) (n := 2) (pc' := 27) (st' := [.int 40, .int u]) rfl rfl ?_
              refine wp_ic (t := 32) (st := []) rfl rfl (fun hc10 => ?_) (fun hc10 => ?_)
              · skip
                have q10 : (u).toInt ≤ 40 := by have := mc_t_le hc10; simpa using this
                show mm_Wp _ _ _ 32 _ _ _ _
                refine wp_s (i := .iload_n 3) (n := 1) (pc' := 33) (st' := [.int u]) rfl rfl ?_
                refine wp_if (t := 39) (st := []) rfl rfl (fun hc11 => ?_) (fun hc11 => ?_)
                · skip
                  have q11 : (u).toInt ≥ 0 := by have := mc_t_ge hc11; simpa using this
                  show mm_Wp _ _ _ 39 _ _ _ _
                  refine wp_s (i := .aload_n 0) (n := 1) (pc' := 40) (st' := [.ref 114]) rfl rfl ?_
                  refine wp_gf (idx := 68) (a := 114) (v := .ref 134) (pc' := 43) rfl rfl (mm_sn rfl hb_114) rfl rfl ?_
                  refine wp_s (i := .iload_n 1) (n := 1) (pc' := 44) (st' := [.int 3, .ref 134]) rfl rfl ?_
                  refine wp_s (i := .iload_n 2) (n := 1) (pc' := 45) (st' := [.int w, .int 3, .ref 134]) rfl rfl ?_
                  refine wp_is (l' := (([(-4), (-4), (-4), (-4)]).set 3 w)) (pc' := 46) rfl (mm_sn rfl hb_134) rfl rfl rfl rfl ?_
                  refine wp_s (i := .aload_n 0) (n := 1) (pc' := 47) (st' := [.ref 114]) rfl rfl ?_
                  refine wp_gf (idx := 71) (a := 114) (v := .ref 135) (pc' := 50) rfl rfl (mm_sn rfl (mm_sn rfl hb_114)) rfl rfl ?_
                  refine wp_s (i := .iload_n 1) (n := 1) (pc' := 51) (st' := [.int 3, .ref 135]) rfl rfl ?_
                  refine wp_s (i := .iload_n 3) (n := 1) (pc' := 52) (st' := [.int u, .int 3, .ref 135]) rfl rfl ?_
                  refine wp_is (l' := (([0, 0, 0, 0]).set 3 u)) (pc' := 53) rfl (mm_sn rfl (mm_sn rfl hb_135)) rfl rfl rfl rfl ?_
                  refine wp_s (i := .iconst 0) (n := 1) (pc' := 54) (st' := [.int 0]) rfl rfl ?_
                  refine wp_s (i := .istore 4) (n := 2) (pc' := 56) (ls' := [some (.ref 114), some (.int 3), some (.int w), some (.int u), some (.int 0)]) (st' := []) rfl rfl ?_
                  refine wp_s (i := .iload 4) (n := 2) (pc' := 58) (st' := [.int 0]) rfl rfl ?_
                  refine wp_s (i := .bipush 40) (n := 2) (pc' := 60) (st' := [.int 40, .int 0]) rfl rfl ?_
                  refine wp_s (i := .if_icmp .ge 22) (n := 3) (pc' := 63) (st' := []) rfl rfl ?_
                  refine wp_s (i := .aload_n 0) (n := 1) (pc' := 64) (st' := [.ref 114]) rfl rfl ?_
                  refine wp_gf (idx := 74) (a := 114) (v := .ref 136) (pc' := 67) rfl rfl (mm_sn rfl (mm_sn rfl (mm_sn rfl hb_114))) rfl rfl ?_
                  refine wp_s (i := .bipush 40) (n := 2) (pc' := 69) (st' := [.int 40, .ref 136]) rfl rfl ?_
                  refine wp_s (i := .iload_n 1) (n := 1) (pc' := 70) (st' := [.int 3, .int 40, .ref 136]) rfl rfl ?_
                  refine wp_s (i := .imul) (n := 1) (pc' := 71) (st' := [.int 120, .ref 136]) rfl rfl ?_
                  refine wp_s (i := .iload 4) (n := 2) (pc' := 73) (st' := [.int 0, .int 120, .ref 136]) rfl rfl ?_
                  refine wp_s (i := .iadd) (n := 1) (pc' := 74) (st' := [.int 120, .ref 136]) rfl rfl ?_
                  refine wp_s (i := .iconst 0) (n := 1) (pc' := 75) (st' := [.int 0, .int 120, .ref 136]) rfl rfl ?_
                  refine wp_is (l' := (List.replicate 160 0)) (pc' := 76) rfl (mm_sn rfl (mm_sn rfl (mm_sn rfl hb_136))) rfl rfl (mm_sf (mm_sn rfl (mm_sn rfl (mm_sn rfl hb_136)))) rfl ?_
                  refine wp_s (i := .iinc 4 1) (n := 3) (pc' := 79) (ls' := [some (.ref 114), some (.int 3), some (.int w), some (.int u), some (.int 1)]) (st' := []) rfl rfl ?_
                  refine wp_s (i := .goto (-23)) (n := 3) (pc' := 56) (st' := []) rfl rfl ?_
                  refine wp_s (i := .iload 4) (n := 2) (pc' := 58) (st' := [.int 1]) rfl rfl ?_
                  refine wp_s (i := .bipush 40) (n := 2) (pc' := 60) (st' := [.int 40, .int 1]) rfl rfl ?_
                  refine wp_s (i := .if_icmp .ge 22) (n := 3) (pc' := 63) (st' := []) rfl rfl ?_
                  refine wp_s (i := .aload_n 0) (n := 1) (pc' := 64) (st' := [.ref 114]) rfl rfl ?_
                  refine wp_gf (idx := 74) (a := 114) (v := .ref 136) (pc' := 67) rfl rfl (mm_sn rfl (mm_sn rfl (mm_sn rfl hb_114))) rfl rfl ?_
                  refine wp_s (i := .bipush 40) (n := 2) (pc' := 69) (st' := [.int 40, .ref 136]) rfl rfl ?_
                  refine wp_s (i := .iload_n 1) (n := 1) (pc' := 70) (st' := [.int 3, .int 40, .ref 136]) rfl rfl ?_
                  refine wp_s (i := .imul) (n := 1) (pc' := 71) (st' := [.int 120, .ref 136]) rfl rfl ?_
                  refine wp_s (i := .iload 4) (n := 2) (pc' := 73) (st' := [.int 1, .int 120, .ref 136]) rfl rfl ?_
                  refine wp_s (i := .iadd) (n := 1) (pc' := 74) (st' := [.int 121, .ref 136]) rfl rfl ?_
                  refine wp_s (i := .iconst 0) (n := 1) (pc' := 75) (st' := [.int 0, .int 121, .ref 136]) rfl rfl ?_
                  refine wp_is (l' := (List.replicate 160 0)) (pc' := 76) rfl (mm_sn rfl (mm_sn rfl (mm_sn rfl hb_136))) rfl rfl (mm_sf (mm_sn rfl (mm_sn rfl (mm_sn rfl hb_136)))) rfl ?_
                  refine wp_s (i := .iinc 4 1) (n := 3) (pc' := 79) (ls' := [some (.ref 114), some (.int 3), some (.int w), some (.int u), some (.int 2)]) (st' := []) rfl rfl ?_
                  refine wp_s (i := .goto (-23)) (n := 3) (pc' := 56) (st' := []) rfl rfl ?_
                  refine wp_s (i := .iload 4) (n := 2) (pc' := 58) (st' := [.int 2]) rfl rfl ?_
                  refine wp_s (i := .bipush 40) (n := 2) (pc' := 60) (st' := [.int 40, .int 2]) rfl rfl ?_
                  refine wp_s (i := .if_icmp .ge 22) (n := 3) (pc' := 63) (st' := []) rfl rfl ?_
                  refine wp_s (i := .aload_n 0) (n := 1) (pc' := 64) (st' := [.ref 114]) rfl rfl ?_
                  refine wp_gf (idx := 74) (a := 114) (v := .ref 136) (pc' := 67) rfl rfl (mm_sn rfl (mm_sn rfl (mm_sn rfl hb_114))) rfl rfl ?_
                  refine wp_s (i := .bipush 40) (n := 2) (pc' := 69) (st' := [.int 40, .ref 136]) rfl rfl ?_
                  refine wp_s (i := .iload_n 1) (n := 1) (pc' := 70) (st' := [.int 3, .int 40, .ref 136]) rfl rfl ?_
                  refine wp_s (i := .imul) (n := 1) (pc' := 71) (st' := [.int 120, .ref 136]) rfl rfl ?_
                  refine wp_s (i := .iload 4) (n := 2) (pc' := 73) (st' := [.int 2, .int 120, .ref 136]) rfl rfl ?_
                  refine wp_s (i := .iadd) (n := 1) (pc' := 74) (st' := [.int 122, .ref 136]) rfl rfl ?_
                  refine wp_s (i := .iconst 0) (n := 1) (pc' := 75) (st' := [.int 0, .int 122, .ref 136]) rfl rfl ?_
                  refine wp_is (l' := (List.replicate 160 0)) (pc' := 76) rfl (mm_sn rfl (mm_sn rfl (mm_sn rfl hb_136))) rfl rfl (mm_sf (mm_sn rfl (mm_sn rfl (mm_sn rfl hb_136)))) rfl ?_
                  refine wp_s (i := .iinc 4 1) (n := 3) (pc' := 79) (ls' := [some (.ref 114), some (.int 3), some (.int w), some (.int u), some (.int 3)]) (st' := []) rfl rfl ?_
                  refine wp_s (i := .goto (-23)) (n := 3) (pc' := 56) (st' := []) rfl rfl ?_
                  refine wp_s (i := .iload 4) (n := 2) (pc' := 58) (st' := [.int 3]) rfl rfl ?_
                  refine wp_s (i := .bipush 40) (n := 2) (pc' := 60) (st' := [.int 40, .int 3]) rfl rfl ?_
                  refine wp_s (i := .if_icmp .ge 22) (n := 3) (pc' := 63) (st' := []) rfl rfl ?_
                  refine wp_s (i := .aload_n 0) (n := 1) (pc' := 64) (st' := [.ref 114]) rfl rfl ?_
                  refine wp_gf (idx := 74) (a := 114) (v := .ref 136) (pc' := 67) rfl rfl (mm_sn rfl (mm_sn rfl (mm_sn rfl hb_114))) rfl rfl ?_
                  refine wp_s (i := .bipush 40) (n := 2) (pc' := 69) (st' := [.int 40, .ref 136]) rfl rfl ?_
                  refine wp_s (i := .iload_n 1) (n := 1) (pc' := 70) (st' := [.int 3, .int 40, .ref 136]) rfl rfl ?_
                  refine wp_s (i := .imul) (n := 1) (pc' := 71) (st' := [.int 120, .ref 136]) rfl rfl ?_
                  refine wp_s (i := .iload 4) (n := 2) (pc' := 73) (st' := [.int 3, .int 120, .ref 136]) rfl rfl ?_
                  refine wp_s (i := .iadd) (n := 1) (pc' := 74) (st' := [.int 123, .ref 136]) rfl rfl ?_
                  refine wp_s (i := .iconst 0) (n := 1) (pc' := 75) (st' := [.int 0, .int 123, .ref 136]) rfl rfl ?_
                  refine wp_is (l' := (List.replicate 160 0)) (pc' := 76) rfl (mm_sn rfl (mm_sn rfl (mm_sn rfl hb_136))) rfl rfl (mm_sf (mm_sn rfl (mm_sn rfl (mm_sn rfl hb_136)))) rfl ?_
                  refine wp_s (i := .iinc 4 1) (n := 3) (pc' := 79) (ls' := [some (.ref 114), some (.int 3), some (.int w), some (.int u), some (.int 4)]) (st' := []) rfl rfl ?_
                  refine wp_s (i := .goto (-23)) (n := 3) (pc' := 56) (st' := []) rfl rfl ?_
                  refine wp_s (i := .iload 4) (n := 2) (pc' := 58) (st' := [.int 4]) rfl rfl ?_
                  refine wp_s (i := .bipush 40) (n := 2) (pc' := 60) (st' := [.int 40, .int 4]) rfl rfl ?_
                  refine wp_s (i := .if_icmp .ge 22) (n := 3) (pc' := 63) (st' := []) rfl rfl ?_
                  refine wp_s (i := .aload_n 0) (n := 1) (pc' := 64) (st' := [.ref 114]) rfl rfl ?_
                  refine wp_gf (idx := 74) (a := 114) (v := .ref 136) (pc' := 67) rfl rfl (mm_sn rfl (mm_sn rfl (mm_sn rfl hb_114))) rfl rfl ?_
                  refine wp_s (i := .bipush 40) (n := 2) (pc' := 69) (st' := [.int 40, .ref 136]) rfl rfl ?_
                  refine wp_s (i := .iload_n 1) (n := 1) (pc' := 70) (st' := [.int 3, .int 40, .ref 136]) rfl rfl ?_
                  refine wp_s (i := .imul) (n := 1) (pc' := 71) (st' := [.int 120, .ref 136]) rfl rfl ?_
                  refine wp_s (i := .iload 4) (n := 2) (pc' := 73) (st' := [.int 4, .int 120, .ref 136]) rfl rfl ?_
                  refine wp_s (i := .iadd) (n := 1) (pc' := 74) (st' := [.int 124, .ref 136]) rfl rfl ?_
                  refine wp_s (i := .iconst 0) (n := 1) (pc' := 75) (st' := [.int 0, .int 124, .ref 136]) rfl rfl ?_
                  refine wp_is (l' := (List.replicate 160 0)) (pc' := 76) rfl (mm_sn rfl (mm_sn rfl (mm_sn rfl hb_136))) rfl rfl (mm_sf (mm_sn rfl (mm_sn rfl (mm_sn rfl hb_136)))) rfl ?_
                  refine wp_s (i := .iinc 4 1) (n := 3) (pc' := 79) (ls' := [some (.ref 114), some (.int 3), some (.int w), some (.int u), some (.int 5)]) (st' := []) rfl rfl ?_
                  refine wp_s (i := .goto (-23)) (n := 3) (pc' := 56) (st' := []) rfl rfl ?_
                  refine wp_s (i := .iload 4) (n := 2) (pc' := 58) (st' := [.int 5]) rfl rfl ?_
                  refine wp_s (i := .bipush 40) (n := 2) (pc' := 60) (st' := [.int 40, .int 5]) rfl rfl ?_
                  refine wp_s (i := .if_icmp .ge 22) (n := 3) (pc' := 63) (st' := []) rfl rfl ?_
                  refine wp_s (i := .aload_n 0) (n := 1) (pc' := 64) (st' := [.ref 114]) rfl rfl ?_
                  refine wp_gf (idx := 74) (a := 114) (v := .ref 136) (pc' := 67) rfl rfl (mm_sn rfl (mm_sn rfl (mm_sn rfl hb_114))) rfl rfl ?_
                  refine wp_s (i := .bipush 40) (n := 2) (pc' := 69) (st' := [.int 40, .ref 136]) rfl rfl ?_
                  refine wp_s (i := .iload_n 1) (n := 1) (pc' := 70) (st' := [.int 3, .int 40, .ref 136]) rfl rfl ?_
                  refine wp_s (i := .imul) (n := 1) (pc' := 71) (st' := [.int 120, .ref 136]) rfl rfl ?_
                  refine wp_s (i := .iload 4) (n := 2) (pc' := 73) (st' := [.int 5, .int 120, .ref 136]) rfl rfl ?_
                  refine wp_s (i := .iadd) (n := 1) (pc' := 74) (st' := [.int 125, .ref 136]) rfl rfl ?_
                  refine wp_s (i := .iconst 0) (n := 1) (pc' := 75) (st' := [.int 0, .int 125, .ref 136]) rfl rfl ?_
                  refine wp_is (l' := (List.replicate 160 0)) (pc' := 76) rfl (mm_sn rfl (mm_sn rfl (mm_sn rfl hb_136))) rfl rfl (mm_sf (mm_sn rfl (mm_sn rfl (mm_sn rfl hb_136)))) rfl ?_
                  refine wp_s (i := .iinc 4 1) (n := 3) (pc' := 79) (ls' := [some (.ref 114), some (.int 3), some (.int w), some (.int u), some (.int 6)]) (st' := []) rfl rfl ?_
                  refine wp_s (i := .goto (-23)) (n := 3) (pc' := 56) (st' := []) rfl rfl ?_
                  refine wp_s (i := .iload 4) (n := 2) (pc' := 58) (st' := [.int 6]) rfl rfl ?_
                  refine wp_s (i := .bipush 40) (n := 2) (pc' := 60) (st' := [.int 40, .int 6]) rfl rfl ?_
                  refine wp_s (i := .if_icmp .ge 22) (n := 3) (pc' := 63) (st' := []) rfl rfl ?_
                  refine wp_s (i := .aload_n 0) (n := 1) (pc' := 64) (st' := [.ref 114]) rfl rfl ?_
                  refine wp_gf (idx := 74) (a := 114) (v := .ref 136) (pc' := 67) rfl rfl (mm_sn rfl (mm_sn rfl (mm_sn rfl hb_114))) rfl rfl ?_
                  refine wp_s (i := .bipush 40) (n := 2) (pc' := 69) (st' := [.int 40, .ref 136]) rfl rfl ?_
                  refine wp_s (i := .iload_n 1) (n := 1) (pc' := 70) (st' := [.int 3, .int 40, .ref 136]) rfl rfl ?_
                  refine wp_s (i := .imul) (n := 1) (pc' := 71) (st' := [.int 120, .ref 136]) rfl rfl ?_
                  refine wp_s (i := .iload 4) (n := 2) (pc' := 73) (st' := [.int 6, .int 120, .ref 136]) rfl rfl ?_
                  refine wp_s (i := .iadd) (n := 1) (pc' := 74) (st' := [.int 126, .ref 136]) rfl rfl ?_
                  refine wp_s (i := .iconst 0) (n := 1) (pc' := 75) (st' := [.int 0, .int 126, .ref 136]) rfl rfl ?_
                  refine wp_is (l' := (List.replicate 160 0)) (pc' := 76) rfl (mm_sn rfl (mm_sn rfl (mm_sn rfl hb_136))) rfl rfl (mm_sf (mm_sn rfl (mm_sn rfl (mm_sn rfl hb_136)))) rfl ?_
                  refine wp_s (i := .iinc 4 1) (n := 3) (pc' := 79) (ls' := [some (.ref 114), some (.int 3), some (.int w), some (.int u), some (.int 7)]) (st' := []) rfl rfl ?_
                  refine wp_s (i := .goto (-23)) (n := 3) (pc' := 56) (st' := []) rfl rfl ?_
                  refine wp_s (i := .iload 4) (n := 2) (pc' := 58) (st' := [.int 7]) rfl rfl ?_
                  refine wp_s (i := .bipush 40) (n := 2) (pc' := 60) (st' := [.int 40, .int 7]) rfl rfl ?_
                  refine wp_s (i := .if_icmp .ge 22) (n := 3) (pc' := 63) (st' := []) rfl rfl ?_
                  refine wp_s (i := .aload_n 0) (n := 1) (pc' := 64) (st' := [.ref 114]) rfl rfl ?_
                  refine wp_gf (idx := 74) (a := 114) (v := .ref 136) (pc' := 67) rfl rfl (mm_sn rfl (mm_sn rfl (mm_sn rfl hb_114))) rfl rfl ?_
                  refine wp_s (i := .bipush 40) (n := 2) (pc' := 69) (st' := [.int 40, .ref 136]) rfl rfl ?_
                  refine wp_s (i := .iload_n 1) (n := 1) (pc' := 70) (st' := [.int 3, .int 40, .ref 136]) rfl rfl ?_
                  refine wp_s (i := .imul) (n := 1) (pc' := 71) (st' := [.int 120, .ref 136]) rfl rfl ?_
                  refine wp_s (i := .iload 4) (n := 2) (pc' := 73) (st' := [.int 7, .int 120, .ref 136]) rfl rfl ?_
                  refine wp_s (i := .iadd) (n := 1) (pc' := 74) (st' := [.int 127, .ref 136]) rfl rfl ?_
                  refine wp_s (i := .iconst 0) (n := 1) (pc' := 75) (st' := [.int 0, .int 127, .ref 136]) rfl rfl ?_
                  refine wp_is (l' := (List.replicate 160 0)) (pc' := 76) rfl (mm_sn rfl (mm_sn rfl (mm_sn rfl hb_136))) rfl rfl (mm_sf (mm_sn rfl (mm_sn rfl (mm_sn rfl hb_136)))) rfl ?_
                  refine wp_s (i := .iinc 4 1) (n := 3) (pc' := 79) (ls' := [some (.ref 114), some (.int 3), some (.int w), some (.int u), some (.int 8)]) (st' := []) rfl rfl ?_
                  refine wp_s (i := .goto (-23)) (n := 3) (pc' := 56) (st' := []) rfl rfl ?_
                  refine wp_s (i := .iload 4) (n := 2) (pc' := 58) (st' := [.int 8]) rfl rfl ?_
                  refine wp_s (i := .bipush 40) (n := 2) (pc' := 60) (st' := [.int 40, .int 8]) rfl rfl ?_
                  refine wp_s (i := .if_icmp .ge 22) (n := 3) (pc' := 63) (st' := []) rfl rfl ?_
                  refine wp_s (i := .aload_n 0) (n := 1) (pc' := 64) (st' := [.ref 114]) rfl rfl ?_
                  refine wp_gf (idx := 74) (a := 114) (v := .ref 136) (pc' := 67) rfl rfl (mm_sn rfl (mm_sn rfl (mm_sn rfl hb_114))) rfl rfl ?_
                  refine wp_s (i := .bipush 40) (n := 2) (pc' := 69) (st' := [.int 40, .ref 136]) rfl rfl ?_
                  refine wp_s (i := .iload_n 1) (n := 1) (pc' := 70) (st' := [.int 3, .int 40, .ref 136]) rfl rfl ?_
                  refine wp_s (i := .imul) (n := 1) (pc' := 71) (st' := [.int 120, .ref 136]) rfl rfl ?_
                  refine wp_s (i := .iload 4) (n := 2) (pc' := 73) (st' := [.int 8, .int 120, .ref 136]) rfl rfl ?_
                  refine wp_s (i := .iadd) (n := 1) (pc' := 74) (st' := [.int 128, .ref 136]) rfl rfl ?_
                  refine wp_s (i := .iconst 0) (n := 1) (pc' := 75) (st' := [.int 0, .int 128, .ref 136]) rfl rfl ?_
                  refine wp_is (l' := (List.replicate 160 0)) (pc' := 76) rfl (mm_sn rfl (mm_sn rfl (mm_sn rfl hb_136))) rfl rfl (mm_sf (mm_sn rfl (mm_sn rfl (mm_sn rfl hb_136)))) rfl ?_
                  refine wp_s (i := .iinc 4 1) (n := 3) (pc' := 79) (ls' := [some (.ref 114), some (.int 3), some (.int w), some (.int u), some (.int 9)]) (st' := []) rfl rfl ?_
                  refine wp_s (i := .goto (-23)) (n := 3) (pc' := 56) (st' := []) rfl rfl ?_
                  refine wp_s (i := .iload 4) (n := 2) (pc' := 58) (st' := [.int 9]) rfl rfl ?_
                  refine wp_s (i := .bipush 40) (n := 2) (pc' := 60) (st' := [.int 40, .int 9]) rfl rfl ?_
                  refine wp_s (i := .if_icmp .ge 22) (n := 3) (pc' := 63) (st' := []) rfl rfl ?_
                  refine wp_s (i := .aload_n 0) (n := 1) (pc' := 64) (st' := [.ref 114]) rfl rfl ?_
                  refine wp_gf (idx := 74) (a := 114) (v := .ref 136) (pc' := 67) rfl rfl (mm_sn rfl (mm_sn rfl (mm_sn rfl hb_114))) rfl rfl ?_
                  refine wp_s (i := .bipush 40) (n := 2) (pc' := 69) (st' := [.int 40, .ref 136]) rfl rfl ?_
                  refine wp_s (i := .iload_n 1) (n := 1) (pc' := 70) (st' := [.int 3, .int 40, .ref 136]) rfl rfl ?_
                  refine wp_s (i := .imul) (n := 1) (pc' := 71) (st' := [.int 120, .ref 136]) rfl rfl ?_
                  refine wp_s (i := .iload 4) (n := 2) (pc' := 73) (st' := [.int 9, .int 120, .ref 136]) rfl rfl ?_
                  refine wp_s (i := .iadd) (n := 1) (pc' := 74) (st' := [.int 129, .ref 136]) rfl rfl ?_
                  refine wp_s (i := .iconst 0) (n := 1) (pc' := 75) (st' := [.int 0, .int 129, .ref 136]) rfl rfl ?_
                  refine wp_is (l' := (List.replicate 160 0)) (pc' := 76) rfl (mm_sn rfl (mm_sn rfl (mm_sn rfl hb_136))) rfl rfl (mm_sf (mm_sn rfl (mm_sn rfl (mm_sn rfl hb_136)))) rfl ?_
                  refine wp_s (i := .iinc 4 1) (n := 3) (pc' := 79) (ls' := [some (.ref 114), some (.int 3), some (.int w), some (.int u), some (.int 10)]) (st' := []) rfl rfl ?_
                  refine wp_s (i := .goto (-23)) (n := 3) (pc' := 56) (st' := []) rfl rfl ?_
                  refine wp_s (i := .iload 4) (n := 2) (pc' := 58) (st' := [.int 10]) rfl rfl ?_
                  refine wp_s (i := .bipush 40) (n := 2) (pc' := 60) (st' := [.int 40, .int 10]) rfl rfl ?_
                  refine wp_s (i := .if_icmp .ge 22) (n := 3) (pc' := 63) (st' := []) rfl rfl ?_
                  refine wp_s (i := .aload_n 0) (n := 1) (pc' := 64) (st' := [.ref 114]) rfl rfl ?_
                  refine wp_gf (idx := 74) (a := 114) (v := .ref 136) (pc' := 67) rfl rfl (mm_sn rfl (mm_sn rfl (mm_sn rfl hb_114))) rfl rfl ?_
                  refine wp_s (i := .bipush 40) (n := 2) (pc' := 69) (st' := [.int 40, .ref 136]) rfl rfl ?_
                  refine wp_s (i := .iload_n 1) (n := 1) (pc' := 70) (st' := [.int 3, .int 40, .ref 136]) rfl rfl ?_
                  refine wp_s (i := .imul) (n := 1) (pc' := 71) (st' := [.int 120, .ref 136]) rfl rfl ?_
                  refine wp_s (i := .iload 4) (n := 2) (pc' := 73) (st' := [.int 10, .int 120, .ref 136]) rfl rfl ?_
                  refine wp_s (i := .iadd) (n := 1) (pc' := 74) (st' := [.int 130, .ref 136]) rfl rfl ?_
                  refine wp_s (i := .iconst 0) (n := 1) (pc' := 75) (st' := [.int 0, .int 130, .ref 136]) rfl rfl ?_
                  refine wp_is (l' := (List.replicate 160 0)) (pc' := 76) rfl (mm_sn rfl (mm_sn rfl (mm_sn rfl hb_136))) rfl rfl (mm_sf (mm_sn rfl (mm_sn rfl (mm_sn rfl hb_136)))) rfl ?_
                  refine wp_s (i := .iinc 4 1) (n := 3) (pc' := 79) (ls' := [some (.ref 114), some (.int 3), some (.int w), some (.int u), some (.int 11)]) (st' := []) rfl rfl ?_
                  refine wp_s (i := .goto (-23)) (n := 3) (pc' := 56) (st' := []) rfl rfl ?_
                  refine wp_s (i := .iload 4) (n := 2) (pc' := 58) (st' := [.int 11]) rfl rfl ?_
                  refine wp_s (i := .bipush 40) (n := 2) (pc' := 60) (st' := [.int 40, .int 11]) rfl rfl ?_
                  refine wp_s (i := .if_icmp .ge 22) (n := 3) (pc' := 63) (st' := []) rfl rfl ?_
                  refine wp_s (i := .aload_n 0) (n := 1) (pc' := 64) (st' := [.ref 114]) rfl rfl ?_
                  refine wp_gf (idx := 74) (a := 114) (v := .ref 136) (pc' := 67) rfl rfl (mm_sn rfl (mm_sn rfl (mm_sn rfl hb_114))) rfl rfl ?_
                  refine wp_s (i := .bipush 40) (n := 2) (pc' := 69) (st' := [.int 40, .ref 136]) rfl rfl ?_
                  refine wp_s (i := .iload_n 1) (n := 1) (pc' := 70) (st' := [.int 3, .int 40, .ref 136]) rfl rfl ?_
                  refine wp_s (i := .imul) (n := 1) (pc' := 71) (st' := [.int 120, .ref 136]) rfl rfl ?_
                  refine wp_s (i := .iload 4) (n := 2) (pc' := 73) (st' := [.int 11, .int 120, .ref 136]) rfl rfl ?_
                  refine wp_s (i := .iadd) (n := 1) (pc' := 74) (st' := [.int 131, .ref 136]) rfl rfl ?_
                  refine wp_s (i := .iconst 0) (n := 1) (pc' := 75) (st' := [.int 0, .int 131, .ref 136]) rfl rfl ?_
                  refine wp_is (l' := (List.replicate 160 0)) (pc' := 76) rfl (mm_sn rfl (mm_sn rfl (mm_sn rfl hb_136))) rfl rfl (mm_sf (mm_sn rfl (mm_sn rfl (mm_sn rfl hb_136)))) rfl ?_
                  refine wp_s (i := .iinc 4 1) (n := 3) (pc' := 79) (ls' := [some (.ref 114), some (.int 3), some (.int w), some (.int u), some (.int 12)]) (st' := []) rfl rfl ?_
                  refine wp_s (i := .goto (-23)) (n := 3) (pc' := 56) (st' := []) rfl rfl ?_
                  refine wp_s (i := .iload 4) (n := 2) (pc' := 58) (st' := [.int 12]) rfl rfl ?_
                  refine wp_s (i := .bipush 40) (n := 2) (pc' := 60) (st' := [.int 40, .int 12]) rfl rfl ?_
                  refine wp_s (i := .if_icmp .ge 22) (n := 3) (pc' := 63) (st' := []) rfl rfl ?_
                  refine wp_s (i := .aload_n 0) (n := 1) (pc' := 64) (st' := [.ref 114]) rfl rfl ?_
                  refine wp_gf (idx := 74) (a := 114) (v := .ref 136) (pc' := 67) rfl rfl (mm_sn rfl (mm_sn rfl (mm_sn rfl hb_114))) rfl rfl ?_
                  refine wp_s (i := .bipush 40) (n := 2) (pc' := 69) (st' := [.int 40, .ref 136]) rfl rfl ?_
                  refine wp_s (i := .iload_n 1) (n := 1) (pc' := 70) (st' := [.int 3, .int 40, .ref 136]) rfl rfl ?_
                  refine wp_s (i := .imul) (n := 1) (pc' := 71) (st' := [.int 120, .ref 136]) rfl rfl ?_
                  refine wp_s (i := .iload 4) (n := 2) (pc' := 73) (st' := [.int 12, .int 120, .ref 136]) rfl rfl ?_
                  refine wp_s (i := .iadd) (n := 1) (pc' := 74) (st' := [.int 132, .ref 136]) rfl rfl ?_
                  refine wp_s (i := .iconst 0) (n := 1) (pc' := 75) (st' := [.int 0, .int 132, .ref 136]) rfl rfl ?_
                  refine wp_is (l' := (List.replicate 160 0)) (pc' := 76) rfl (mm_sn rfl (mm_sn rfl (mm_sn rfl hb_136))) rfl rfl (mm_sf (mm_sn rfl (mm_sn rfl (mm_sn rfl hb_136)))) rfl ?_
                  refine wp_s (i := .iinc 4 1) (n := 3) (pc' := 79) (ls' := [some (.ref 114), some (.int 3), some (.int w), some (.int u), some (.int 13)]) (st' := []) rfl rfl ?_
                  refine wp_s (i := .goto (-23)) (n := 3) (pc' := 56) (st' := []) rfl rfl ?_
                  refine wp_s (i := .iload 4) (n := 2) (pc' := 58) (st' := [.int 13]) rfl rfl ?_
                  refine wp_s (i := .bipush 40) (n := 2) (pc' := 60) (st' := [.int 40, .int 13]) rfl rfl ?_
                  refine wp_s (i := .if_icmp .ge 22) (n := 3) (pc' := 63) (st' := []) rfl rfl ?_
                  refine wp_s (i := .aload_n 0) (n := 1) (pc' := 64) (st' := [.ref 114]) rfl rfl ?_
                  refine wp_gf (idx := 74) (a := 114) (v := .ref 136) (pc' := 67) rfl rfl (mm_sn rfl (mm_sn rfl (mm_sn rfl hb_114))) rfl rfl ?_
                  refine wp_s (i := .bipush 40) (n := 2) (pc' := 69) (st' := [.int 40, .ref 136]) rfl rfl ?_
                  refine wp_s (i := .iload_n 1) (n := 1) (pc' := 70) (st' := [.int 3, .int 40, .ref 136]) rfl rfl ?_
                  refine wp_s (i := .imul) (n := 1) (pc' := 71) (st' := [.int 120, .ref 136]) rfl rfl ?_
                  refine wp_s (i := .iload 4) (n := 2) (pc' := 73) (st' := [.int 13, .int 120, .ref 136]) rfl rfl ?_
                  refine wp_s (i := .iadd) (n := 1) (pc' := 74) (st' := [.int 133, .ref 136]) rfl rfl ?_
                  refine wp_s (i := .iconst 0) (n := 1) (pc' := 75) (st' := [.int 0, .int 133, .ref 136]) rfl rfl ?_
                  refine wp_is (l' := (List.replicate 160 0)) (pc' := 76) rfl (mm_sn rfl (mm_sn rfl (mm_sn rfl hb_136))) rfl rfl (mm_sf (mm_sn rfl (mm_sn rfl (mm_sn rfl hb_136)))) rfl ?_
                  refine wp_s (i := .iinc 4 1) (n := 3) (pc' := 79) (ls' := [some (.ref 114), some (.int 3), some (.int w), some (.int u), some (.int 14)]) (st' := []) rfl rfl ?_
                  refine wp_s (i := .goto (-23)) (n := 3) (pc' := 56) (st' := []) rfl rfl ?_
                  refine wp_s (i := .iload 4) (n := 2) (pc' := 58) (st' := [.int 14]) rfl rfl ?_
                  refine wp_s (i := .bipush 40) (n := 2) (pc' := 60) (st' := [.int 40, .int 14]) rfl rfl ?_
                  refine wp_s (i := .if_icmp .ge 22) (n := 3) (pc' := 63) (st' := []) rfl rfl ?_
                  refine wp_s (i := .aload_n 0) (n := 1) (pc' := 64) (st' := [.ref 114]) rfl rfl ?_
                  refine wp_gf (idx := 74) (a := 114) (v := .ref 136) (pc' := 67) rfl rfl (mm_sn rfl (mm_sn rfl (mm_sn rfl hb_114))) rfl rfl ?_
                  refine wp_s (i := .bipush 40) (n := 2) (pc' := 69) (st' := [.int 40, .ref 136]) rfl rfl ?_
                  refine wp_s (i := .iload_n 1) (n := 1) (pc' := 70) (st' := [.int 3, .int 40, .ref 136]) rfl rfl ?_
                  refine wp_s (i := .imul) (n := 1) (pc' := 71) (st' := [.int 120, .ref 136]) rfl rfl ?_
                  refine wp_s (i := .iload 4) (n := 2) (pc' := 73) (st' := [.int 14, .int 120, .ref 136]) rfl rfl ?_
                  refine wp_s (i := .iadd) (n := 1) (pc' := 74) (st' := [.int 134, .ref 136]) rfl rfl ?_
                  refine wp_s (i := .iconst 0) (n := 1) (pc' := 75) (st' := [.int 0, .int 134, .ref 136]) rfl rfl ?_
                  refine wp_is (l' := (List.replicate 160 0)) (pc' := 76) rfl (mm_sn rfl (mm_sn rfl (mm_sn rfl hb_136))) rfl rfl (mm_sf (mm_sn rfl (mm_sn rfl (mm_sn rfl hb_136)))) rfl ?_
                  refine wp_s (i := .iinc 4 1) (n := 3) (pc' := 79) (ls' := [some (.ref 114), some (.int 3), some (.int w), some (.int u), some (.int 15)]) (st' := []) rfl rfl ?_
                  refine wp_s (i := .goto (-23)) (n := 3) (pc' := 56) (st' := []) rfl rfl ?_
                  refine wp_s (i := .iload 4) (n := 2) (pc' := 58) (st' := [.int 15]) rfl rfl ?_
                  refine wp_s (i := .bipush 40) (n := 2) (pc' := 60) (st' := [.int 40, .int 15]) rfl rfl ?_
                  refine wp_s (i := .if_icmp .ge 22) (n := 3) (pc' := 63) (st' := []) rfl rfl ?_
                  refine wp_s (i := .aload_n 0) (n := 1) (pc' := 64) (st' := [.ref 114]) rfl rfl ?_
                  refine wp_gf (idx := 74) (a := 114) (v := .ref 136) (pc' := 67) rfl rfl (mm_sn rfl (mm_sn rfl (mm_sn rfl hb_114))) rfl rfl ?_
                  refine wp_s (i := .bipush 40) (n := 2) (pc' := 69) (st' := [.int 40, .ref 136]) rfl rfl ?_
                  refine wp_s (i := .iload_n 1) (n := 1) (pc' := 70) (st' := [.int 3, .int 40, .ref 136]) rfl rfl ?_
                  refine wp_s (i := .imul) (n := 1) (pc' := 71) (st' := [.int 120, .ref 136]) rfl rfl ?_
                  refine wp_s (i := .iload 4) (n := 2) (pc' := 73) (st' := [.int 15, .int 120, .ref 136]) rfl rfl ?_
                  refine wp_s (i := .iadd) (n := 1) (pc' := 74) (st' := [.int 135, .ref 136]) rfl rfl ?_
                  refine wp_s (i := .iconst 0) (n := 1) (pc' := 75) (st' := [.int 0, .int 135, .ref 136]) rfl rfl ?_
                  refine wp_is (l' := (List.replicate 160 0)) (pc' := 76) rfl (mm_sn rfl (mm_sn rfl (mm_sn rfl hb_136))) rfl rfl (mm_sf (mm_sn rfl (mm_sn rfl (mm_sn rfl hb_136)))) rfl ?_
                  refine wp_s (i := .iinc 4 1) (n := 3) (pc' := 79) (ls' := [some (.ref 114), some (.int 3), some (.int w), some (.int u), some (.int 16)]) (st' := []) rfl rfl ?_
                  refine wp_s (i := .goto (-23)) (n := 3) (pc' := 56) (st' := []) rfl rfl ?_
                  refine wp_s (i := .iload 4) (n := 2) (pc' := 58) (st' := [.int 16]) rfl rfl ?_
                  refine wp_s (i := .bipush 40) (n := 2) (pc' := 60) (st' := [.int 40, .int 16]) rfl rfl ?_
                  refine wp_s (i := .if_icmp .ge 22) (n := 3) (pc' := 63) (st' := []) rfl rfl ?_
                  refine wp_s (i := .aload_n 0) (n := 1) (pc' := 64) (st' := [.ref 114]) rfl rfl ?_
                  refine wp_gf (idx := 74) (a := 114) (v := .ref 136) (pc' := 67) rfl rfl (mm_sn rfl (mm_sn rfl (mm_sn rfl hb_114))) rfl rfl ?_
                  refine wp_s (i := .bipush 40) (n := 2) (pc' := 69) (st' := [.int 40, .ref 136]) rfl rfl ?_
                  refine wp_s (i := .iload_n 1) (n := 1) (pc' := 70) (st' := [.int 3, .int 40, .ref 136]) rfl rfl ?_
                  refine wp_s (i := .imul) (n := 1) (pc' := 71) (st' := [.int 120, .ref 136]) rfl rfl ?_
                  refine wp_s (i := .iload 4) (n := 2) (pc' := 73) (st' := [.int 16, .int 120, .ref 136]) rfl rfl ?_
                  refine wp_s (i := .iadd) (n := 1) (pc' := 74) (st' := [.int 136, .ref 136]) rfl rfl ?_
                  refine wp_s (i := .iconst 0) (n := 1) (pc' := 75) (st' := [.int 0, .int 136, .ref 136]) rfl rfl ?_
                  refine wp_is (l' := (List.replicate 160 0)) (pc' := 76) rfl (mm_sn rfl (mm_sn rfl (mm_sn rfl hb_136))) rfl rfl (mm_sf (mm_sn rfl (mm_sn rfl (mm_sn rfl hb_136)))) rfl ?_
                  refine wp_s (i := .iinc 4 1) (n := 3) (pc' := 79) (ls' := [some (.ref 114), some (.int 3), some (.int w), some (.int u), some (.int 17)]) (st' := []) rfl rfl ?_
                  refine wp_s (i := .goto (-23)) (n := 3) (pc' := 56) (st' := []) rfl rfl ?_
                  refine wp_s (i := .iload 4) (n := 2) (pc' := 58) (st' := [.int 17]) rfl rfl ?_
                  refine wp_s (i := .bipush 40) (n := 2) (pc' := 60) (st' := [.int 40, .int 17]) rfl rfl ?_
                  refine wp_s (i := .if_icmp .ge 22) (n := 3) (pc' := 63) (st' := []) rfl rfl ?_
                  refine wp_s (i := .aload_n 0) (n := 1) (pc' := 64) (st' := [.ref 114]) rfl rfl ?_
                  refine wp_gf (idx := 74) (a := 114) (v := .ref 136) (pc' := 67) rfl rfl (mm_sn rfl (mm_sn rfl (mm_sn rfl hb_114))) rfl rfl ?_
                  refine wp_s (i := .bipush 40) (n := 2) (pc' := 69) (st' := [.int 40, .ref 136]) rfl rfl ?_
                  refine wp_s (i := .iload_n 1) (n := 1) (pc' := 70) (st' := [.int 3, .int 40, .ref 136]) rfl rfl ?_
                  refine wp_s (i := .imul) (n := 1) (pc' := 71) (st' := [.int 120, .ref 136]) rfl rfl ?_
                  refine wp_s (i := .iload 4) (n := 2) (pc' := 73) (st' := [.int 17, .int 120, .ref 136]) rfl rfl ?_
                  refine wp_s (i := .iadd) (n := 1) (pc' := 74) (st' := [.int 137, .ref 136]) rfl rfl ?_
                  refine wp_s (i := .iconst 0) (n := 1) (pc' := 75) (st' := [.int 0, .int 137, .ref 136]) rfl rfl ?_
                  refine wp_is (l' := (List.replicate 160 0)) (pc' := 76) rfl (mm_sn rfl (mm_sn rfl (mm_sn rfl hb_136))) rfl rfl (mm_sf (mm_sn rfl (mm_sn rfl (mm_sn rfl hb_136)))) rfl ?_
                  refine wp_s (i := .iinc 4 1) (n := 3) (pc' := 79) (ls' := [some (.ref 114), some (.int 3), some (.int w), some (.int u), some (.int 18)]) (st' := []) rfl rfl ?_
                  refine wp_s (i := .goto (-23)) (n := 3) (pc' := 56) (st' := []) rfl rfl ?_
                  refine wp_s (i := .iload 4) (n := 2) (pc' := 58) (st' := [.int 18]) rfl rfl ?_
                  refine wp_s (i := .bipush 40) (n := 2) (pc' := 60) (st' := [.int 40, .int 18]) rfl rfl ?_
                  refine wp_s (i := .if_icmp .ge 22) (n := 3) (pc' := 63) (st' := []) rfl rfl ?_
                  refine wp_s (i := .aload_n 0) (n := 1) (pc' := 64) (st' := [.ref 114]) rfl rfl ?_
                  refine wp_gf (idx := 74) (a := 114) (v := .ref 136) (pc' := 67) rfl rfl (mm_sn rfl (mm_sn rfl (mm_sn rfl hb_114))) rfl rfl ?_
                  refine wp_s (i := .bipush 40) (n := 2) (pc' := 69) (st' := [.int 40, .ref 136]) rfl rfl ?_
                  refine wp_s (i := .iload_n 1) (n := 1) (pc' := 70) (st' := [.int 3, .int 40, .ref 136]) rfl rfl ?_
                  refine wp_s (i := .imul) (n := 1) (pc' := 71) (st' := [.int 120, .ref 136]) rfl rfl ?_
                  refine wp_s (i := .iload 4) (n := 2) (pc' := 73) (st' := [.int 18, .int 120, .ref 136]) rfl rfl ?_
                  refine wp_s (i := .iadd) (n := 1) (pc' := 74) (st' := [.int 138, .ref 136]) rfl rfl ?_
                  refine wp_s (i := .iconst 0) (n := 1) (pc' := 75) (st' := [.int 0, .int 138, .ref 136]) rfl rfl ?_
                  refine wp_is (l' := (List.replicate 160 0)) (pc' := 76) rfl (mm_sn rfl (mm_sn rfl (mm_sn rfl hb_136))) rfl rfl (mm_sf (mm_sn rfl (mm_sn rfl (mm_sn rfl hb_136)))) rfl ?_
                  refine wp_s (i := .iinc 4 1) (n := 3) (pc' := 79) (ls' := [some (.ref 114), some (.int 3), some (.int w), some (.int u), some (.int 19)]) (st' := []) rfl rfl ?_
                  refine wp_s (i := .goto (-23)) (n := 3) (pc' := 56) (st' := []) rfl rfl ?_
                  refine wp_s (i := .iload 4) (n := 2) (pc' := 58) (st' := [.int 19]) rfl rfl ?_
                  refine wp_s (i := .bipush 40) (n := 2) (pc' := 60) (st' := [.int 40, .int 19]) rfl rfl ?_
                  refine wp_s (i := .if_icmp .ge 22) (n := 3) (pc' := 63) (st' := []) rfl rfl ?_
                  refine wp_s (i := .aload_n 0) (n := 1) (pc' := 64) (st' := [.ref 114]) rfl rfl ?_
                  refine wp_gf (idx := 74) (a := 114) (v := .ref 136) (pc' := 67) rfl rfl (mm_sn rfl (mm_sn rfl (mm_sn rfl hb_114))) rfl rfl ?_
                  refine wp_s (i := .bipush 40) (n := 2) (pc' := 69) (st' := [.int 40, .ref 136]) rfl rfl ?_
                  refine wp_s (i := .iload_n 1) (n := 1) (pc' := 70) (st' := [.int 3, .int 40, .ref 136]) rfl rfl ?_
                  refine wp_s (i := .imul) (n := 1) (pc' := 71) (st' := [.int 120, .ref 136]) rfl rfl ?_
                  refine wp_s (i := .iload 4) (n := 2) (pc' := 73) (st' := [.int 19, .int 120, .ref 136]) rfl rfl ?_
                  refine wp_s (i := .iadd) (n := 1) (pc' := 74) (st' := [.int 139, .ref 136]) rfl rfl ?_
                  refine wp_s (i := .iconst 0) (n := 1) (pc' := 75) (st' := [.int 0, .int 139, .ref 136]) rfl rfl ?_
                  refine wp_is (l' := (List.replicate 160 0)) (pc' := 76) rfl (mm_sn rfl (mm_sn rfl (mm_sn rfl hb_136))) rfl rfl (mm_sf (mm_sn rfl (mm_sn rfl (mm_sn rfl hb_136)))) rfl ?_
                  refine wp_s (i := .iinc 4 1) (n := 3) (pc' := 79) (ls' := [some (.ref 114), some (.int 3), some (.int w), some (.int u), some (.int 20)]) (st' := []) rfl rfl ?_
                  refine wp_s (i := .goto (-23)) (n := 3) (pc' := 56) (st' := []) rfl rfl ?_
                  refine wp_s (i := .iload 4) (n := 2) (pc' := 58) (st' := [.int 20]) rfl rfl ?_
                  refine wp_s (i := .bipush 40) (n := 2) (pc' := 60) (st' := [.int 40, .int 20]) rfl rfl ?_
                  refine wp_s (i := .if_icmp .ge 22) (n := 3) (pc' := 63) (st' := []) rfl rfl ?_
                  refine wp_s (i := .aload_n 0) (n := 1) (pc' := 64) (st' := [.ref 114]) rfl rfl ?_
                  refine wp_gf (idx := 74) (a := 114) (v := .ref 136) (pc' := 67) rfl rfl (mm_sn rfl (mm_sn rfl (mm_sn rfl hb_114))) rfl rfl ?_
                  refine wp_s (i := .bipush 40) (n := 2) (pc' := 69) (st' := [.int 40, .ref 136]) rfl rfl ?_
                  refine wp_s (i := .iload_n 1) (n := 1) (pc' := 70) (st' := [.int 3, .int 40, .ref 136]) rfl rfl ?_
                  refine wp_s (i := .imul) (n := 1) (pc' := 71) (st' := [.int 120, .ref 136]) rfl rfl ?_
                  refine wp_s (i := .iload 4) (n := 2) (pc' := 73) (st' := [.int 20, .int 120, .ref 136]) rfl rfl ?_
                  refine wp_s (i := .iadd) (n := 1) (pc' := 74) (st' := [.int 140, .ref 136]) rfl rfl ?_
                  refine wp_s (i := .iconst 0) (n := 1) (pc' := 75) (st' := [.int 0, .int 140, .ref 136]) rfl rfl ?_
                  refine wp_is (l' := (List.replicate 160 0)) (pc' := 76) rfl (mm_sn rfl (mm_sn rfl (mm_sn rfl hb_136))) rfl rfl (mm_sf (mm_sn rfl (mm_sn rfl (mm_sn rfl hb_136)))) rfl ?_
                  refine wp_s (i := .iinc 4 1) (n := 3) (pc' := 79) (ls' := [some (.ref 114), some (.int 3), some (.int w), some (.int u), some (.int 21)]) (st' := []) rfl rfl ?_
                  refine wp_s (i := .goto (-23)) (n := 3) (pc' := 56) (st' := []) rfl rfl ?_
                  refine wp_s (i := .iload 4) (n := 2) (pc' := 58) (st' := [.int 21]) rfl rfl ?_
                  refine wp_s (i := .bipush 40) (n := 2) (pc' := 60) (st' := [.int 40, .int 21]) rfl rfl ?_
                  refine wp_s (i := .if_icmp .ge 22) (n := 3) (pc' := 63) (st' := []) rfl rfl ?_
                  refine wp_s (i := .aload_n 0) (n := 1) (pc' := 64) (st' := [.ref 114]) rfl rfl ?_
                  refine wp_gf (idx := 74) (a := 114) (v := .ref 136) (pc' := 67) rfl rfl (mm_sn rfl (mm_sn rfl (mm_sn rfl hb_114))) rfl rfl ?_
                  refine wp_s (i := .bipush 40) (n := 2) (pc' := 69) (st' := [.int 40, .ref 136]) rfl rfl ?_
                  refine wp_s (i := .iload_n 1) (n := 1) (pc' := 70) (st' := [.int 3, .int 40, .ref 136]) rfl rfl ?_
                  refine wp_s (i := .imul) (n := 1) (pc' := 71) (st' := [.int 120, .ref 136]) rfl rfl ?_
                  refine wp_s (i := .iload 4) (n := 2) (pc' := 73) (st' := [.int 21, .int 120, .ref 136]) rfl rfl ?_
                  refine wp_s (i := .iadd) (n := 1) (pc' := 74) (st' := [.int 141, .ref 136]) rfl rfl ?_
                  refine wp_s (i := .iconst 0) (n := 1) (pc' := 75) (st' := [.int 0, .int 141, .ref 136]) rfl rfl ?_
                  refine wp_is (l' := (List.replicate 160 0)) (pc' := 76) rfl (mm_sn rfl (mm_sn rfl (mm_sn rfl hb_136))) rfl rfl (mm_sf (mm_sn rfl (mm_sn rfl (mm_sn rfl hb_136)))) rfl ?_
                  refine wp_s (i := .iinc 4 1) (n := 3) (pc' := 79) (ls' := [some (.ref 114), some (.int 3), some (.int w), some (.int u), some (.int 22)]) (st' := []) rfl rfl ?_
                  refine wp_s (i := .goto (-23)) (n := 3) (pc' := 56) (st' := []) rfl rfl ?_
                  refine wp_s (i := .iload 4) (n := 2) (pc' := 58) (st' := [.int 22]) rfl rfl ?_
                  refine wp_s (i := .bipush 40) (n := 2) (pc' := 60) (st' := [.int 40, .int 22]) rfl rfl ?_
                  refine wp_s (i := .if_icmp .ge 22) (n := 3) (pc' := 63) (st' := []) rfl rfl ?_
                  refine wp_s (i := .aload_n 0) (n := 1) (pc' := 64) (st' := [.ref 114]) rfl rfl ?_
                  refine wp_gf (idx := 74) (a := 114) (v := .ref 136) (pc' := 67) rfl rfl (mm_sn rfl (mm_sn rfl (mm_sn rfl hb_114))) rfl rfl ?_
                  refine wp_s (i := .bipush 40) (n := 2) (pc' := 69) (st' := [.int 40, .ref 136]) rfl rfl ?_
                  refine wp_s (i := .iload_n 1) (n := 1) (pc' := 70) (st' := [.int 3, .int 40, .ref 136]) rfl rfl ?_
                  refine wp_s (i := .imul) (n := 1) (pc' := 71) (st' := [.int 120, .ref 136]) rfl rfl ?_
                  refine wp_s (i := .iload 4) (n := 2) (pc' := 73) (st' := [.int 22, .int 120, .ref 136]) rfl rfl ?_
                  refine wp_s (i := .iadd) (n := 1) (pc' := 74) (st' := [.int 142, .ref 136]) rfl rfl ?_
                  refine wp_s (i := .iconst 0) (n := 1) (pc' := 75) (st' := [.int 0, .int 142, .ref 136]) rfl rfl ?_
                  refine wp_is (l' := (List.replicate 160 0)) (pc' := 76) rfl (mm_sn rfl (mm_sn rfl (mm_sn rfl hb_136))) rfl rfl (mm_sf (mm_sn rfl (mm_sn rfl (mm_sn rfl hb_136)))) rfl ?_
                  refine wp_s (i := .iinc 4 1) (n := 3) (pc' := 79) (ls' := [some (.ref 114), some (.int 3), some (.int w), some (.int u), some (.int 23)]) (st' := []) rfl rfl ?_
                  refine wp_s (i := .goto (-23)) (n := 3) (pc' := 56) (st' := []) rfl rfl ?_
                  refine wp_s (i := .iload 4) (n := 2) (pc' := 58) (st' := [.int 23]) rfl rfl ?_
                  refine wp_s (i := .bipush 40) (n := 2) (pc' := 60) (st' := [.int 40, .int 23]) rfl rfl ?_
                  refine wp_s (i := .if_icmp .ge 22) (n := 3) (pc' := 63) (st' := []) rfl rfl ?_
                  refine wp_s (i := .aload_n 0) (n := 1) (pc' := 64) (st' := [.ref 114]) rfl rfl ?_
                  refine wp_gf (idx := 74) (a := 114) (v := .ref 136) (pc' := 67) rfl rfl (mm_sn rfl (mm_sn rfl (mm_sn rfl hb_114))) rfl rfl ?_
                  refine wp_s (i := .bipush 40) (n := 2) (pc' := 69) (st' := [.int 40, .ref 136]) rfl rfl ?_
                  refine wp_s (i := .iload_n 1) (n := 1) (pc' := 70) (st' := [.int 3, .int 40, .ref 136]) rfl rfl ?_
                  refine wp_s (i := .imul) (n := 1) (pc' := 71) (st' := [.int 120, .ref 136]) rfl rfl ?_
                  refine wp_s (i := .iload 4) (n := 2) (pc' := 73) (st' := [.int 23, .int 120, .ref 136]) rfl rfl ?_
                  refine wp_s (i := .iadd) (n := 1) (pc' := 74) (st' := [.int 143, .ref 136]) rfl rfl ?_
                  refine wp_s (i := .iconst 0) (n := 1) (pc' := 75) (st' := [.int 0, .int 143, .ref 136]) rfl rfl ?_
                  refine wp_is (l' := (List.replicate 160 0)) (pc' := 76) rfl (mm_sn rfl (mm_sn rfl (mm_sn rfl hb_136))) rfl rfl (mm_sf (mm_sn rfl (mm_sn rfl (mm_sn rfl hb_136)))) rfl ?_
                  refine wp_s (i := .iinc 4 1) (n := 3) (pc' := 79) (ls' := [some (.ref 114), some (.int 3), some (.int w), some (.int u), some (.int 24)]) (st' := []) rfl rfl ?_
                  refine wp_s (i := .goto (-23)) (n := 3) (pc' := 56) (st' := []) rfl rfl ?_
                  refine wp_s (i := .iload 4) (n := 2) (pc' := 58) (st' := [.int 24]) rfl rfl ?_
                  refine wp_s (i := .bipush 40) (n := 2) (pc' := 60) (st' := [.int 40, .int 24]) rfl rfl ?_
                  refine wp_s (i := .if_icmp .ge 22) (n := 3) (pc' := 63) (st' := []) rfl rfl ?_
                  refine wp_s (i := .aload_n 0) (n := 1) (pc' := 64) (st' := [.ref 114]) rfl rfl ?_
                  refine wp_gf (idx := 74) (a := 114) (v := .ref 136) (pc' := 67) rfl rfl (mm_sn rfl (mm_sn rfl (mm_sn rfl hb_114))) rfl rfl ?_
                  refine wp_s (i := .bipush 40) (n := 2) (pc' := 69) (st' := [.int 40, .ref 136]) rfl rfl ?_
                  refine wp_s (i := .iload_n 1) (n := 1) (pc' := 70) (st' := [.int 3, .int 40, .ref 136]) rfl rfl ?_
                  refine wp_s (i := .imul) (n := 1) (pc' := 71) (st' := [.int 120, .ref 136]) rfl rfl ?_
                  refine wp_s (i := .iload 4) (n := 2) (pc' := 73) (st' := [.int 24, .int 120, .ref 136]) rfl rfl ?_
                  refine wp_s (i := .iadd) (n := 1) (pc' := 74) (st' := [.int 144, .ref 136]) rfl rfl ?_
                  refine wp_s (i := .iconst 0) (n := 1) (pc' := 75) (st' := [.int 0, .int 144, .ref 136]) rfl rfl ?_
                  refine wp_is (l' := (List.replicate 160 0)) (pc' := 76) rfl (mm_sn rfl (mm_sn rfl (mm_sn rfl hb_136))) rfl rfl (mm_sf (mm_sn rfl (mm_sn rfl (mm_sn rfl hb_136)))) rfl ?_
                  refine wp_s (i := .iinc 4 1) (n := 3) (pc' := 79) (ls' := [some (.ref 114), some (.int 3), some (.int w), some (.int u), some (.int 25)]) (st' := []) rfl rfl ?_
                  refine wp_s (i := .goto (-23)) (n := 3) (pc' := 56) (st' := []) rfl rfl ?_
                  refine wp_s (i := .iload 4) (n := 2) (pc' := 58) (st' := [.int 25]) rfl rfl ?_
                  refine wp_s (i := .bipush 40) (n := 2) (pc' := 60) (st' := [.int 40, .int 25]) rfl rfl ?_
                  refine wp_s (i := .if_icmp .ge 22) (n := 3) (pc' := 63) (st' := []) rfl rfl ?_
                  refine wp_s (i := .aload_n 0) (n := 1) (pc' := 64) (st' := [.ref 114]) rfl rfl ?_
                  refine wp_gf (idx := 74) (a := 114) (v := .ref 136) (pc' := 67) rfl rfl (mm_sn rfl (mm_sn rfl (mm_sn rfl hb_114))) rfl rfl ?_
                  refine wp_s (i := .bipush 40) (n := 2) (pc' := 69) (st' := [.int 40, .ref 136]) rfl rfl ?_
                  refine wp_s (i := .iload_n 1) (n := 1) (pc' := 70) (st' := [.int 3, .int 40, .ref 136]) rfl rfl ?_
                  refine wp_s (i := .imul) (n := 1) (pc' := 71) (st' := [.int 120, .ref 136]) rfl rfl ?_
                  refine wp_s (i := .iload 4) (n := 2) (pc' := 73) (st' := [.int 25, .int 120, .ref 136]) rfl rfl ?_
                  refine wp_s (i := .iadd) (n := 1) (pc' := 74) (st' := [.int 145, .ref 136]) rfl rfl ?_
                  refine wp_s (i := .iconst 0) (n := 1) (pc' := 75) (st' := [.int 0, .int 145, .ref 136]) rfl rfl ?_
                  refine wp_is (l' := (List.replicate 160 0)) (pc' := 76) rfl (mm_sn rfl (mm_sn rfl (mm_sn rfl hb_136))) rfl rfl (mm_sf (mm_sn rfl (mm_sn rfl (mm_sn rfl hb_136)))) rfl ?_
                  refine wp_s (i := .iinc 4 1) (n := 3) (pc' := 79) (ls' := [some (.ref 114), some (.int 3), some (.int w), some (.int u), some (.int 26)]) (st' := []) rfl rfl ?_
                  refine wp_s (i := .goto (-23)) (n := 3) (pc' := 56) (st' := []) rfl rfl ?_
                  refine wp_s (i := .iload 4) (n := 2) (pc' := 58) (st' := [.int 26]) rfl rfl ?_
                  refine wp_s (i := .bipush 40) (n := 2) (pc' := 60) (st' := [.int 40, .int 26]) rfl rfl ?_
                  refine wp_s (i := .if_icmp .ge 22) (n := 3) (pc' := 63) (st' := []) rfl rfl ?_
                  refine wp_s (i := .aload_n 0) (n := 1) (pc' := 64) (st' := [.ref 114]) rfl rfl ?_
                  refine wp_gf (idx := 74) (a := 114) (v := .ref 136) (pc' := 67) rfl rfl (mm_sn rfl (mm_sn rfl (mm_sn rfl hb_114))) rfl rfl ?_
                  refine wp_s (i := .bipush 40) (n := 2) (pc' := 69) (st' := [.int 40, .ref 136]) rfl rfl ?_
                  refine wp_s (i := .iload_n 1) (n := 1) (pc' := 70) (st' := [.int 3, .int 40, .ref 136]) rfl rfl ?_
                  refine wp_s (i := .imul) (n := 1) (pc' := 71) (st' := [.int 120, .ref 136]) rfl rfl ?_
                  refine wp_s (i := .iload 4) (n := 2) (pc' := 73) (st' := [.int 26, .int 120, .ref 136]) rfl rfl ?_
                  refine wp_s (i := .iadd) (n := 1) (pc' := 74) (st' := [.int 146, .ref 136]) rfl rfl ?_
                  refine wp_s (i := .iconst 0) (n := 1) (pc' := 75) (st' := [.int 0, .int 146, .ref 136]) rfl rfl ?_
                  refine wp_is (l' := (List.replicate 160 0)) (pc' := 76) rfl (mm_sn rfl (mm_sn rfl (mm_sn rfl hb_136))) rfl rfl (mm_sf (mm_sn rfl (mm_sn rfl (mm_sn rfl hb_136)))) rfl ?_
                  refine wp_s (i := .iinc 4 1) (n := 3) (pc' := 79) (ls' := [some (.ref 114), some (.int 3), some (.int w), some (.int u), some (.int 27)]) (st' := []) rfl rfl ?_
                  refine wp_s (i := .goto (-23)) (n := 3) (pc' := 56) (st' := []) rfl rfl ?_
                  refine wp_s (i := .iload 4) (n := 2) (pc' := 58) (st' := [.int 27]) rfl rfl ?_
                  refine wp_s (i := .bipush 40) (n := 2) (pc' := 60) (st' := [.int 40, .int 27]) rfl rfl ?_
                  refine wp_s (i := .if_icmp .ge 22) (n := 3) (pc' := 63) (st' := []) rfl rfl ?_
                  refine wp_s (i := .aload_n 0) (n := 1) (pc' := 64) (st' := [.ref 114]) rfl rfl ?_
                  refine wp_gf (idx := 74) (a := 114) (v := .ref 136) (pc' := 67) rfl rfl (mm_sn rfl (mm_sn rfl (mm_sn rfl hb_114))) rfl rfl ?_
                  refine wp_s (i := .bipush 40) (n := 2) (pc' := 69) (st' := [.int 40, .ref 136]) rfl rfl ?_
                  refine wp_s (i := .iload_n 1) (n := 1) (pc' := 70) (st' := [.int 3, .int 40, .ref 136]) rfl rfl ?_
                  refine wp_s (i := .imul) (n := 1) (pc' := 71) (st' := [.int 120, .ref 136]) rfl rfl ?_
                  refine wp_s (i := .iload 4) (n := 2) (pc' := 73) (st' := [.int 27, .int 120, .ref 136]) rfl rfl ?_
                  refine wp_s (i := .iadd) (n := 1) (pc' := 74) (st' := [.int 147, .ref 136]) rfl rfl ?_
                  refine wp_s (i := .iconst 0) (n := 1) (pc' := 75) (st' := [.int 0, .int 147, .ref 136]) rfl rfl ?_
                  refine wp_is (l' := (List.replicate 160 0)) (pc' := 76) rfl (mm_sn rfl (mm_sn rfl (mm_sn rfl hb_136))) rfl rfl (mm_sf (mm_sn rfl (mm_sn rfl (mm_sn rfl hb_136)))) rfl ?_
                  refine wp_s (i := .iinc 4 1) (n := 3) (pc' := 79) (ls' := [some (.ref 114), some (.int 3), some (.int w), some (.int u), some (.int 28)]) (st' := []) rfl rfl ?_
                  refine wp_s (i := .goto (-23)) (n := 3) (pc' := 56) (st' := []) rfl rfl ?_
                  refine wp_s (i := .iload 4) (n := 2) (pc' := 58) (st' := [.int 28]) rfl rfl ?_
                  refine wp_s (i := .bipush 40) (n := 2) (pc' := 60) (st' := [.int 40, .int 28]) rfl rfl ?_
                  refine wp_s (i := .if_icmp .ge 22) (n := 3) (pc' := 63) (st' := []) rfl rfl ?_
                  refine wp_s (i := .aload_n 0) (n := 1) (pc' := 64) (st' := [.ref 114]) rfl rfl ?_
                  refine wp_gf (idx := 74) (a := 114) (v := .ref 136) (pc' := 67) rfl rfl (mm_sn rfl (mm_sn rfl (mm_sn rfl hb_114))) rfl rfl ?_
                  refine wp_s (i := .bipush 40) (n := 2) (pc' := 69) (st' := [.int 40, .ref 136]) rfl rfl ?_
                  refine wp_s (i := .iload_n 1) (n := 1) (pc' := 70) (st' := [.int 3, .int 40, .ref 136]) rfl rfl ?_
                  refine wp_s (i := .imul) (n := 1) (pc' := 71) (st' := [.int 120, .ref 136]) rfl rfl ?_
                  refine wp_s (i := .iload 4) (n := 2) (pc' := 73) (st' := [.int 28, .int 120, .ref 136]) rfl rfl ?_
                  refine wp_s (i := .iadd) (n := 1) (pc' := 74) (st' := [.int 148, .ref 136]) rfl rfl ?_
                  refine wp_s (i := .iconst 0) (n := 1) (pc' := 75) (st' := [.int 0, .int 148, .ref 136]) rfl rfl ?_
                  refine wp_is (l' := (List.replicate 160 0)) (pc' := 76) rfl (mm_sn rfl (mm_sn rfl (mm_sn rfl hb_136))) rfl rfl (mm_sf (mm_sn rfl (mm_sn rfl (mm_sn rfl hb_136)))) rfl ?_
                  refine wp_s (i := .iinc 4 1) (n := 3) (pc' := 79) (ls' := [some (.ref 114), some (.int 3), some (.int w), some (.int u), some (.int 29)]) (st' := []) rfl rfl ?_
                  refine wp_s (i := .goto (-23)) (n := 3) (pc' := 56) (st' := []) rfl rfl ?_
                  refine wp_s (i := .iload 4) (n := 2) (pc' := 58) (st' := [.int 29]) rfl rfl ?_
                  refine wp_s (i := .bipush 40) (n := 2) (pc' := 60) (st' := [.int 40, .int 29]) rfl rfl ?_
                  refine wp_s (i := .if_icmp .ge 22) (n := 3) (pc' := 63) (st' := []) rfl rfl ?_
                  refine wp_s (i := .aload_n 0) (n := 1) (pc' := 64) (st' := [.ref 114]) rfl rfl ?_
                  refine wp_gf (idx := 74) (a := 114) (v := .ref 136) (pc' := 67) rfl rfl (mm_sn rfl (mm_sn rfl (mm_sn rfl hb_114))) rfl rfl ?_
                  refine wp_s (i := .bipush 40) (n := 2) (pc' := 69) (st' := [.int 40, .ref 136]) rfl rfl ?_
                  refine wp_s (i := .iload_n 1) (n := 1) (pc' := 70) (st' := [.int 3, .int 40, .ref 136]) rfl rfl ?_
                  refine wp_s (i := .imul) (n := 1) (pc' := 71) (st' := [.int 120, .ref 136]) rfl rfl ?_
                  refine wp_s (i := .iload 4) (n := 2) (pc' := 73) (st' := [.int 29, .int 120, .ref 136]) rfl rfl ?_
                  refine wp_s (i := .iadd) (n := 1) (pc' := 74) (st' := [.int 149, .ref 136]) rfl rfl ?_
                  refine wp_s (i := .iconst 0) (n := 1) (pc' := 75) (st' := [.int 0, .int 149, .ref 136]) rfl rfl ?_
                  refine wp_is (l' := (List.replicate 160 0)) (pc' := 76) rfl (mm_sn rfl (mm_sn rfl (mm_sn rfl hb_136))) rfl rfl (mm_sf (mm_sn rfl (mm_sn rfl (mm_sn rfl hb_136)))) rfl ?_
                  refine wp_s (i := .iinc 4 1) (n := 3) (pc' := 79) (ls' := [some (.ref 114), some (.int 3), some (.int w), some (.int u), some (.int 30)]) (st' := []) rfl rfl ?_
                  refine wp_s (i := .goto (-23)) (n := 3) (pc' := 56) (st' := []) rfl rfl ?_
                  refine wp_s (i := .iload 4) (n := 2) (pc' := 58) (st' := [.int 30]) rfl rfl ?_
                  refine wp_s (i := .bipush 40) (n := 2) (pc' := 60) (st' := [.int 40, .int 30]) rfl rfl ?_
                  refine wp_s (i := .if_icmp .ge 22) (n := 3) (pc' := 63) (st' := []) rfl rfl ?_
                  refine wp_s (i := .aload_n 0) (n := 1) (pc' := 64) (st' := [.ref 114]) rfl rfl ?_
                  refine wp_gf (idx := 74) (a := 114) (v := .ref 136) (pc' := 67) rfl rfl (mm_sn rfl (mm_sn rfl (mm_sn rfl hb_114))) rfl rfl ?_
                  refine wp_s (i := .bipush 40) (n := 2) (pc' := 69) (st' := [.int 40, .ref 136]) rfl rfl ?_
                  refine wp_s (i := .iload_n 1) (n := 1) (pc' := 70) (st' := [.int 3, .int 40, .ref 136]) rfl rfl ?_
                  refine wp_s (i := .imul) (n := 1) (pc' := 71) (st' := [.int 120, .ref 136]) rfl rfl ?_
                  refine wp_s (i := .iload 4) (n := 2) (pc' := 73) (st' := [.int 30, .int 120, .ref 136]) rfl rfl ?_
                  refine wp_s (i := .iadd) (n := 1) (pc' := 74) (st' := [.int 150, .ref 136]) rfl rfl ?_
                  refine wp_s (i := .iconst 0) (n := 1) (pc' := 75) (st' := [.int 0, .int 150, .ref 136]) rfl rfl ?_
                  refine wp_is (l' := (List.replicate 160 0)) (pc' := 76) rfl (mm_sn rfl (mm_sn rfl (mm_sn rfl hb_136))) rfl rfl (mm_sf (mm_sn rfl (mm_sn rfl (mm_sn rfl hb_136)))) rfl ?_
                  refine wp_s (i := .iinc 4 1) (n := 3) (pc' := 79) (ls' := [some (.ref 114), some (.int 3), some (.int w), some (.int u), some (.int 31)]) (st' := []) rfl rfl ?_
                  refine wp_s (i := .goto (-23)) (n := 3) (pc' := 56) (st' := []) rfl rfl ?_
                  refine wp_s (i := .iload 4) (n := 2) (pc' := 58) (st' := [.int 31]) rfl rfl ?_
                  refine wp_s (i := .bipush 40) (n := 2) (pc' := 60) (st' := [.int 40, .int 31]) rfl rfl ?_
                  refine wp_s (i := .if_icmp .ge 22) (n := 3) (pc' := 63) (st' := []) rfl rfl ?_
                  refine wp_s (i := .aload_n 0) (n := 1) (pc' := 64) (st' := [.ref 114]) rfl rfl ?_
                  refine wp_gf (idx := 74) (a := 114) (v := .ref 136) (pc' := 67) rfl rfl (mm_sn rfl (mm_sn rfl (mm_sn rfl hb_114))) rfl rfl ?_
                  refine wp_s (i := .bipush 40) (n := 2) (pc' := 69) (st' := [.int 40, .ref 136]) rfl rfl ?_
                  refine wp_s (i := .iload_n 1) (n := 1) (pc' := 70) (st' := [.int 3, .int 40, .ref 136]) rfl rfl ?_
                  refine wp_s (i := .imul) (n := 1) (pc' := 71) (st' := [.int 120, .ref 136]) rfl rfl ?_
                  refine wp_s (i := .iload 4) (n := 2) (pc' := 73) (st' := [.int 31, .int 120, .ref 136]) rfl rfl ?_
                  refine wp_s (i := .iadd) (n := 1) (pc' := 74) (st' := [.int 151, .ref 136]) rfl rfl ?_
                  refine wp_s (i := .iconst 0) (n := 1) (pc' := 75) (st' := [.int 0, .int 151, .ref 136]) rfl rfl ?_
                  refine wp_is (l' := (List.replicate 160 0)) (pc' := 76) rfl (mm_sn rfl (mm_sn rfl (mm_sn rfl hb_136))) rfl rfl (mm_sf (mm_sn rfl (mm_sn rfl (mm_sn rfl hb_136)))) rfl ?_
                  refine wp_s (i := .iinc 4 1) (n := 3) (pc' := 79) (ls' := [some (.ref 114), some (.int 3), some (.int w), some (.int u), some (.int 32)]) (st' := []) rfl rfl ?_
                  refine wp_s (i := .goto (-23)) (n := 3) (pc' := 56) (st' := []) rfl rfl ?_
                  refine wp_s (i := .iload 4) (n := 2) (pc' := 58) (st' := [.int 32]) rfl rfl ?_
                  refine wp_s (i := .bipush 40) (n := 2) (pc' := 60) (st' := [.int 40, .int 32]) rfl rfl ?_
                  refine wp_s (i := .if_icmp .ge 22) (n := 3) (pc' := 63) (st' := []) rfl rfl ?_
                  refine wp_s (i := .aload_n 0) (n := 1) (pc' := 64) (st' := [.ref 114]) rfl rfl ?_
                  refine wp_gf (idx := 74) (a := 114) (v := .ref 136) (pc' := 67) rfl rfl (mm_sn rfl (mm_sn rfl (mm_sn rfl hb_114))) rfl rfl ?_
                  refine wp_s (i := .bipush 40) (n := 2) (pc' := 69) (st' := [.int 40, .ref 136]) rfl rfl ?_
                  refine wp_s (i := .iload_n 1) (n := 1) (pc' := 70) (st' := [.int 3, .int 40, .ref 136]) rfl rfl ?_
                  refine wp_s (i := .imul) (n := 1) (pc' := 71) (st' := [.int 120, .ref 136]) rfl rfl ?_
                  refine wp_s (i := .iload 4) (n := 2) (pc' := 73) (st' := [.int 32, .int 120, .ref 136]) rfl rfl ?_
                  refine wp_s (i := .iadd) (n := 1) (pc' := 74) (st' := [.int 152, .ref 136]) rfl rfl ?_
                  refine wp_s (i := .iconst 0) (n := 1) (pc' := 75) (st' := [.int 0, .int 152, .ref 136]) rfl rfl ?_
                  refine wp_is (l' := (List.replicate 160 0)) (pc' := 76) rfl (mm_sn rfl (mm_sn rfl (mm_sn rfl hb_136))) rfl rfl (mm_sf (mm_sn rfl (mm_sn rfl (mm_sn rfl hb_136)))) rfl ?_
                  refine wp_s (i := .iinc 4 1) (n := 3) (pc' := 79) (ls' := [some (.ref 114), some (.int 3), some (.int w), some (.int u), some (.int 33)]) (st' := []) rfl rfl ?_
                  refine wp_s (i := .goto (-23)) (n := 3) (pc' := 56) (st' := []) rfl rfl ?_
                  refine wp_s (i := .iload 4) (n := 2) (pc' := 58) (st' := [.int 33]) rfl rfl ?_
                  refine wp_s (i := .bipush 40) (n := 2) (pc' := 60) (st' := [.int 40, .int 33]) rfl rfl ?_
                  refine wp_s (i := .if_icmp .ge 22) (n := 3) (pc' := 63) (st' := []) rfl rfl ?_
                  refine wp_s (i := .aload_n 0) (n := 1) (pc' := 64) (st' := [.ref 114]) rfl rfl ?_
                  refine wp_gf (idx := 74) (a := 114) (v := .ref 136) (pc' := 67) rfl rfl (mm_sn rfl (mm_sn rfl (mm_sn rfl hb_114))) rfl rfl ?_
                  refine wp_s (i := .bipush 40) (n := 2) (pc' := 69) (st' := [.int 40, .ref 136]) rfl rfl ?_
                  refine wp_s (i := .iload_n 1) (n := 1) (pc' := 70) (st' := [.int 3, .int 40, .ref 136]) rfl rfl ?_
                  refine wp_s (i := .imul) (n := 1) (pc' := 71) (st' := [.int 120, .ref 136]) rfl rfl ?_
                  refine wp_s (i := .iload 4) (n := 2) (pc' := 73) (st' := [.int 33, .int 120, .ref 136]) rfl rfl ?_
                  refine wp_s (i := .iadd) (n := 1) (pc' := 74) (st' := [.int 153, .ref 136]) rfl rfl ?_
                  refine wp_s (i := .iconst 0) (n := 1) (pc' := 75) (st' := [.int 0, .int 153, .ref 136]) rfl rfl ?_
                  refine wp_is (l' := (List.replicate 160 0)) (pc' := 76) rfl (mm_sn rfl (mm_sn rfl (mm_sn rfl hb_136))) rfl rfl (mm_sf (mm_sn rfl (mm_sn rfl (mm_sn rfl hb_136)))) rfl ?_
                  refine wp_s (i := .iinc 4 1) (n := 3) (pc' := 79) (ls' := [some (.ref 114), some (.int 3), some (.int w), some (.int u), some (.int 34)]) (st' := []) rfl rfl ?_
                  refine wp_s (i := .goto (-23)) (n := 3) (pc' := 56) (st' := []) rfl rfl ?_
                  refine wp_s (i := .iload 4) (n := 2) (pc' := 58) (st' := [.int 34]) rfl rfl ?_
                  refine wp_s (i := .bipush 40) (n := 2) (pc' := 60) (st' := [.int 40, .int 34]) rfl rfl ?_
                  refine wp_s (i := .if_icmp .ge 22) (n := 3) (pc' := 63) (st' := []) rfl rfl ?_
                  refine wp_s (i := .aload_n 0) (n := 1) (pc' := 64) (st' := [.ref 114]) rfl rfl ?_
                  refine wp_gf (idx := 74) (a := 114) (v := .ref 136) (pc' := 67) rfl rfl (mm_sn rfl (mm_sn rfl (mm_sn rfl hb_114))) rfl rfl ?_
                  refine wp_s (i := .bipush 40) (n := 2) (pc' := 69) (st' := [.int 40, .ref 136]) rfl rfl ?_
                  refine wp_s (i := .iload_n 1) (n := 1) (pc' := 70) (st' := [.int 3, .int 40, .ref 136]) rfl rfl ?_
                  refine wp_s (i := .imul) (n := 1) (pc' := 71) (st' := [.int 120, .ref 136]) rfl rfl ?_
                  refine wp_s (i := .iload 4) (n := 2) (pc' := 73) (st' := [.int 34, .int 120, .ref 136]) rfl rfl ?_
                  refine wp_s (i := .iadd) (n := 1) (pc' := 74) (st' := [.int 154, .ref 136]) rfl rfl ?_
                  refine wp_s (i := .iconst 0) (n := 1) (pc' := 75) (st' := [.int 0, .int 154, .ref 136]) rfl rfl ?_
                  refine wp_is (l' := (List.replicate 160 0)) (pc' := 76) rfl (mm_sn rfl (mm_sn rfl (mm_sn rfl hb_136))) rfl rfl (mm_sf (mm_sn rfl (mm_sn rfl (mm_sn rfl hb_136)))) rfl ?_
                  refine wp_s (i := .iinc 4 1) (n := 3) (pc' := 79) (ls' := [some (.ref 114), some (.int 3), some (.int w), some (.int u), some (.int 35)]) (st' := []) rfl rfl ?_
                  refine wp_s (i := .goto (-23)) (n := 3) (pc' := 56) (st' := []) rfl rfl ?_
                  refine wp_s (i := .iload 4) (n := 2) (pc' := 58) (st' := [.int 35]) rfl rfl ?_
                  refine wp_s (i := .bipush 40) (n := 2) (pc' := 60) (st' := [.int 40, .int 35]) rfl rfl ?_
                  refine wp_s (i := .if_icmp .ge 22) (n := 3) (pc' := 63) (st' := []) rfl rfl ?_
                  refine wp_s (i := .aload_n 0) (n := 1) (pc' := 64) (st' := [.ref 114]) rfl rfl ?_
                  refine wp_gf (idx := 74) (a := 114) (v := .ref 136) (pc' := 67) rfl rfl (mm_sn rfl (mm_sn rfl (mm_sn rfl hb_114))) rfl rfl ?_
                  refine wp_s (i := .bipush 40) (n := 2) (pc' := 69) (st' := [.int 40, .ref 136]) rfl rfl ?_
                  refine wp_s (i := .iload_n 1) (n := 1) (pc' := 70) (st' := [.int 3, .int 40, .ref 136]) rfl rfl ?_
                  refine wp_s (i := .imul) (n := 1) (pc' := 71) (st' := [.int 120, .ref 136]) rfl rfl ?_
                  refine wp_s (i := .iload 4) (n := 2) (pc' := 73) (st' := [.int 35, .int 120, .ref 136]) rfl rfl ?_
                  refine wp_s (i := .iadd) (n := 1) (pc' := 74) (st' := [.int 155, .ref 136]) rfl rfl ?_
                  refine wp_s (i := .iconst 0) (n := 1) (pc' := 75) (st' := [.int 0, .int 155, .ref 136]) rfl rfl ?_
                  refine wp_is (l' := (List.replicate 160 0)) (pc' := 76) rfl (mm_sn rfl (mm_sn rfl (mm_sn rfl hb_136))) rfl rfl (mm_sf (mm_sn rfl (mm_sn rfl (mm_sn rfl hb_136)))) rfl ?_
                  refine wp_s (i := .iinc 4 1) (n := 3) (pc' := 79) (ls' := [some (.ref 114), some (.int 3), some (.int w), some (.int u), some (.int 36)]) (st' := []) rfl rfl ?_
                  refine wp_s (i := .goto (-23)) (n := 3) (pc' := 56) (st' := []) rfl rfl ?_
                  refine wp_s (i := .iload 4) (n := 2) (pc' := 58) (st' := [.int 36]) rfl rfl ?_
                  refine wp_s (i := .bipush 40) (n := 2) (pc' := 60) (st' := [.int 40, .int 36]) rfl rfl ?_
                  refine wp_s (i := .if_icmp .ge 22) (n := 3) (pc' := 63) (st' := []) rfl rfl ?_
                  refine wp_s (i := .aload_n 0) (n := 1) (pc' := 64) (st' := [.ref 114]) rfl rfl ?_
                  refine wp_gf (idx := 74) (a := 114) (v := .ref 136) (pc' := 67) rfl rfl (mm_sn rfl (mm_sn rfl (mm_sn rfl hb_114))) rfl rfl ?_
                  refine wp_s (i := .bipush 40) (n := 2) (pc' := 69) (st' := [.int 40, .ref 136]) rfl rfl ?_
                  refine wp_s (i := .iload_n 1) (n := 1) (pc' := 70) (st' := [.int 3, .int 40, .ref 136]) rfl rfl ?_
                  refine wp_s (i := .imul) (n := 1) (pc' := 71) (st' := [.int 120, .ref 136]) rfl rfl ?_
                  refine wp_s (i := .iload 4) (n := 2) (pc' := 73) (st' := [.int 36, .int 120, .ref 136]) rfl rfl ?_
                  refine wp_s (i := .iadd) (n := 1) (pc' := 74) (st' := [.int 156, .ref 136]) rfl rfl ?_
                  refine wp_s (i := .iconst 0) (n := 1) (pc' := 75) (st' := [.int 0, .int 156, .ref 136]) rfl rfl ?_
                  refine wp_is (l' := (List.replicate 160 0)) (pc' := 76) rfl (mm_sn rfl (mm_sn rfl (mm_sn rfl hb_136))) rfl rfl (mm_sf (mm_sn rfl (mm_sn rfl (mm_sn rfl hb_136)))) rfl ?_
                  refine wp_s (i := .iinc 4 1) (n := 3) (pc' := 79) (ls' := [some (.ref 114), some (.int 3), some (.int w), some (.int u), some (.int 37)]) (st' := []) rfl rfl ?_
                  refine wp_s (i := .goto (-23)) (n := 3) (pc' := 56) (st' := []) rfl rfl ?_
                  refine wp_s (i := .iload 4) (n := 2) (pc' := 58) (st' := [.int 37]) rfl rfl ?_
                  refine wp_s (i := .bipush 40) (n := 2) (pc' := 60) (st' := [.int 40, .int 37]) rfl rfl ?_
                  refine wp_s (i := .if_icmp .ge 22) (n := 3) (pc' := 63) (st' := []) rfl rfl ?_
                  refine wp_s (i := .aload_n 0) (n := 1) (pc' := 64) (st' := [.ref 114]) rfl rfl ?_
                  refine wp_gf (idx := 74) (a := 114) (v := .ref 136) (pc' := 67) rfl rfl (mm_sn rfl (mm_sn rfl (mm_sn rfl hb_114))) rfl rfl ?_
                  refine wp_s (i := .bipush 40) (n := 2) (pc' := 69) (st' := [.int 40, .ref 136]) rfl rfl ?_
                  refine wp_s (i := .iload_n 1) (n := 1) (pc' := 70) (st' := [.int 3, .int 40, .ref 136]) rfl rfl ?_
                  refine wp_s (i := .imul) (n := 1) (pc' := 71) (st' := [.int 120, .ref 136]) rfl rfl ?_
                  refine wp_s (i := .iload 4) (n := 2) (pc' := 73) (st' := [.int 37, .int 120, .ref 136]) rfl rfl ?_
                  refine wp_s (i := .iadd) (n := 1) (pc' := 74) (st' := [.int 157, .ref 136]) rfl rfl ?_
                  refine wp_s (i := .iconst 0) (n := 1) (pc' := 75) (st' := [.int 0, .int 157, .ref 136]) rfl rfl ?_
                  refine wp_is (l' := (List.replicate 160 0)) (pc' := 76) rfl (mm_sn rfl (mm_sn rfl (mm_sn rfl hb_136))) rfl rfl (mm_sf (mm_sn rfl (mm_sn rfl (mm_sn rfl hb_136)))) rfl ?_
                  refine wp_s (i := .iinc 4 1) (n := 3) (pc' := 79) (ls' := [some (.ref 114), some (.int 3), some (.int w), some (.int u), some (.int 38)]) (st' := []) rfl rfl ?_
                  refine wp_s (i := .goto (-23)) (n := 3) (pc' := 56) (st' := []) rfl rfl ?_
                  refine wp_s (i := .iload 4) (n := 2) (pc' := 58) (st' := [.int 38]) rfl rfl ?_
                  refine wp_s (i := .bipush 40) (n := 2) (pc' := 60) (st' := [.int 40, .int 38]) rfl rfl ?_
                  refine wp_s (i := .if_icmp .ge 22) (n := 3) (pc' := 63) (st' := []) rfl rfl ?_
                  refine wp_s (i := .aload_n 0) (n := 1) (pc' := 64) (st' := [.ref 114]) rfl rfl ?_
                  refine wp_gf (idx := 74) (a := 114) (v := .ref 136) (pc' := 67) rfl rfl (mm_sn rfl (mm_sn rfl (mm_sn rfl hb_114))) rfl rfl ?_
                  refine wp_s (i := .bipush 40) (n := 2) (pc' := 69) (st' := [.int 40, .ref 136]) rfl rfl ?_
                  refine wp_s (i := .iload_n 1) (n := 1) (pc' := 70) (st' := [.int 3, .int 40, .ref 136]) rfl rfl ?_
                  refine wp_s (i := .imul) (n := 1) (pc' := 71) (st' := [.int 120, .ref 136]) rfl rfl ?_
                  refine wp_s (i := .iload 4) (n := 2) (pc' := 73) (st' := [.int 38, .int 120, .ref 136]) rfl rfl ?_
                  refine wp_s (i := .iadd) (n := 1) (pc' := 74) (st' := [.int 158, .ref 136]) rfl rfl ?_
                  refine wp_s (i := .iconst 0) (n := 1) (pc' := 75) (st' := [.int 0, .int 158, .ref 136]) rfl rfl ?_
                  refine wp_is (l' := (List.replicate 160 0)) (pc' := 76) rfl (mm_sn rfl (mm_sn rfl (mm_sn rfl hb_136))) rfl rfl (mm_sf (mm_sn rfl (mm_sn rfl (mm_sn rfl hb_136)))) rfl ?_
                  refine wp_s (i := .iinc 4 1) (n := 3) (pc' := 79) (ls' := [some (.ref 114), some (.int 3), some (.int w), some (.int u), some (.int 39)]) (st' := []) rfl rfl ?_
                  refine wp_s (i := .goto (-23)) (n := 3) (pc' := 56) (st' := []) rfl rfl ?_
                  refine wp_s (i := .iload 4) (n := 2) (pc' := 58) (st' := [.int 39]) rfl rfl ?_
                  refine wp_s (i := .bipush 40) (n := 2) (pc' := 60) (st' := [.int 40, .int 39]) rfl rfl ?_
                  refine wp_s (i := .if_icmp .ge 22) (n := 3) (pc' := 63) (st' := []) rfl rfl ?_
                  refine wp_s (i := .aload_n 0) (n := 1) (pc' := 64) (st' := [.ref 114]) rfl rfl ?_
                  refine wp_gf (idx := 74) (a := 114) (v := .ref 136) (pc' := 67) rfl rfl (mm_sn rfl (mm_sn rfl (mm_sn rfl hb_114))) rfl rfl ?_
                  refine wp_s (i := .bipush 40) (n := 2) (pc' := 69) (st' := [.int 40, .ref 136]) rfl rfl ?_
                  refine wp_s (i := .iload_n 1) (n := 1) (pc' := 70) (st' := [.int 3, .int 40, .ref 136]) rfl rfl ?_
                  refine wp_s (i := .imul) (n := 1) (pc' := 71) (st' := [.int 120, .ref 136]) rfl rfl ?_
                  refine wp_s (i := .iload 4) (n := 2) (pc' := 73) (st' := [.int 39, .int 120, .ref 136]) rfl rfl ?_
                  refine wp_s (i := .iadd) (n := 1) (pc' := 74) (st' := [.int 159, .ref 136]) rfl rfl ?_
                  refine wp_s (i := .iconst 0) (n := 1) (pc' := 75) (st' := [.int 0, .int 159, .ref 136]) rfl rfl ?_
                  refine wp_is (l' := (List.replicate 160 0)) (pc' := 76) rfl (mm_sn rfl (mm_sn rfl (mm_sn rfl hb_136))) rfl rfl (mm_sf (mm_sn rfl (mm_sn rfl (mm_sn rfl hb_136)))) rfl ?_
                  refine wp_s (i := .iinc 4 1) (n := 3) (pc' := 79) (ls' := [some (.ref 114), some (.int 3), some (.int w), some (.int u), some (.int 40)]) (st' := []) rfl rfl ?_
                  refine wp_s (i := .goto (-23)) (n := 3) (pc' := 56) (st' := []) rfl rfl ?_
                  refine wp_s (i := .iload 4) (n := 2) (pc' := 58) (st' := [.int 40]) rfl rfl ?_
                  refine wp_s (i := .bipush 40) (n := 2) (pc' := 60) (st' := [.int 40, .int 40]) rfl rfl ?_
                  refine wp_s (i := .if_icmp .ge 22) (n := 3) (pc' := 82) (st' := []) rfl rfl ?_
                  refine wp_s (i := .iconst 1) (n := 1) (pc' := 83) (st' := [.int 1]) rfl rfl ?_
                  refine wp_r (i := .ireturn) (n := 1) (v := some (.int 1)) rfl rfl ?_
                  exact ⟨rfl, (pk_okS (pk_okS (pk_okS pk_ok0 hb_112 rfl) (mm_sn rfl hb_134) rfl) (mm_sn rfl (mm_sn rfl hb_135)) rfl)⟩
                · skip
                  have q11 : (u).toInt < 0 := by have := mc_f_ge hc11; simpa using this
                  exfalso; omega
              · skip
                have q10 : (u).toInt > 40 := by have := mc_f_le hc10; simpa using this
                exfalso; omega
        · skip
          have q7 : (u).toInt < 0 := by have := mc_f_ge hc7; simpa using this
          show mm_Wp _ _ _ 26 _ _ _ _
          refine wp_s (i := .bipush (-14)) (n := 2) (pc' := 28) (st' := [.int (-14)]) rfl rfl ?_
          refine wp_r (i := .ireturn) (n := 1) (v := some (.int (-14))) rfl rfl ?_
          refine ⟨(-14), rfl, ⟨_, hb_114⟩, ?_⟩
          show mm_Wp X 12 mm_r187 0 [some (.ref 114), some (.int 3), some (.int w), some (.int u), none] [] _ _
          refine wp_s (i := .iload_n 1) (n := 1) (pc' := 1) (st' := [.int 3]) rfl rfl ?_
          refine wp_s (i := .i2l) (n := 1) (pc' := 2) (st' := [.long 3]) rfl rfl ?_
          refine wp_s (i := .lconst 0) (n := 1) (pc' := 3) (st' := [.long 0, .long 3]) rfl rfl ?_
          refine wp_s (i := .ldc2_w 285) (n := 3) (pc' := 6) (st' := [.long 3, .long 0, .long 3]) rfl rfl ?_
          refine wp_c (i := .invokestatic 81) (n := 3) (Dq := 11) (r' := mm_r120) (as := [.long 3, .long 0, .long 3]) (rest := []) (ls' := [some (.long 3), none, some (.long 0), none, some (.long 3), none]) rfl rfl rfl ?_
          refine wp_x 16 (v := some (.int 1)) (h' := hp_0) (mm_dec (by decide +kernel)) ?_
          show mm_Wp X 12 mm_r187 9 [some (.ref 114), some (.int 3), some (.int w), some (.int u), none] [.int 1] _ _
          refine wp_s (i := .ifCond .eq 21) (n := 3) (pc' := 12) (st' := []) rfl rfl ?_
          refine wp_s (i := .iload_n 2) (n := 1) (pc' := 13) (st' := [.int w]) rfl rfl ?_
          refine wp_s (i := .i2l) (n := 1) (pc' := 14) (st' := [.long ((w).toInt64)]) rfl rfl ?_
          refine wp_s (i := .lconst 0) (n := 1) (pc' := 15) (st' := [.long 0, .long ((w).toInt64)]) rfl rfl ?_
          refine wp_s (i := .ldc2_w 198) (n := 3) (pc' := 18) (st' := [.long 2, .long 0, .long ((w).toInt64)]) rfl rfl ?_
          refine wp_c (i := .invokestatic 81) (n := 3) (Dq := 11) (r' := mm_r120) (as := [.long ((w).toInt64), .long 0, .long 2]) (rest := []) (ls' := [some (.long ((w).toInt64)), none, some (.long 0), none, some (.long 2), none]) rfl rfl rfl ?_
          refine wp_s (i := .lload_n 0) (n := 1) (pc' := 1) (st' := [.long ((w).toInt64)]) rfl rfl ?_
          refine wp_s (i := .lload_n 2) (n := 1) (pc' := 2) (st' := [.long 0, .long ((w).toInt64)]) rfl rfl ?_
          refine wp_s (i := .lcmp) (n := 1) (pc' := 3) (st' := [.int (lg_cmp ((w).toInt64) 0)]) rfl rfl ?_
          refine wp_if (t := 17) (st := []) rfl rfl (fun hc12 => ?_) (fun hc12 => ?_)
          · skip
            have q12 : (w).toInt < 0 := by have := lc_t_lt hc12; simpa using this
            exfalso; omega
          · skip
            have q12 : (w).toInt ≥ 0 := by have := lc_f_lt hc12; simpa using this
            show mm_Wp _ _ _ 6 _ _ _ _
            refine wp_s (i := .lload_n 0) (n := 1) (pc' := 7) (st' := [.long ((w).toInt64)]) rfl rfl ?_
            refine wp_s (i := .lload 4) (n := 2) (pc' := 9) (st' := [.long 2, .long ((w).toInt64)]) rfl rfl ?_
            refine wp_s (i := .lcmp) (n := 1) (pc' := 10) (st' := [.int (lg_cmp ((w).toInt64) 2)]) rfl rfl ?_
            refine wp_if (t := 17) (st := []) rfl rfl (fun hc13 => ?_) (fun hc13 => ?_)
            · skip
              have q13 : (w).toInt > 2 := by have := lc_t_gt hc13; simpa using this
              exfalso; omega
            · skip
              have q13 : (w).toInt ≤ 2 := by have := lc_f_gt hc13; simpa using this
              show mm_Wp _ _ _ 13 _ _ _ _
              refine wp_s (i := .iconst 1) (n := 1) (pc' := 14) (st' := [.int 1]) rfl rfl ?_
              refine wp_s (i := .goto 4) (n := 3) (pc' := 18) (st' := [.int 1]) rfl rfl ?_
              refine wp_r (i := .ireturn) (n := 1) (v := some (.int 1)) rfl rfl ?_
              show mm_Wp X 12 mm_r187 21 [some (.ref 114), some (.int 3), some (.int w), some (.int u), none] [.int 1] _ _
              refine wp_s (i := .ifCond .eq 9) (n := 3) (pc' := 24) (st' := []) rfl rfl ?_
              refine wp_s (i := .iload_n 3) (n := 1) (pc' := 25) (st' := [.int u]) rfl rfl ?_
              refine wp_s (i := .bipush 40) (n := 2) (pc' := 27) (st' := [.int 40, .int u]) rfl rfl ?_
              refine wp_ic (t := 32) (st := []) rfl rfl (fun hc14 => ?_) (fun hc14 => ?_)
              · skip
                have q14 : (u).toInt ≤ 40 := by have := mc_t_le hc14; simpa using this
                show mm_Wp _ _ _ 32 _ _ _ _
                refine wp_s (i := .iload_n 3) (n := 1) (pc' := 33) (st' := [.int u]) rfl rfl ?_
                refine wp_if (t := 39) (st := []) rfl rfl (fun hc15 => ?_) (fun hc15 => ?_)
                · skip
                  have q15 : (u).toInt ≥ 0 := by have := mc_t_ge hc15; simpa using this
                  exfalso; omega
                · skip
                  have q15 : (u).toInt < 0 := by have := mc_f_ge hc15; simpa using this
                  show mm_Wp _ _ _ 36 _ _ _ _
                  refine wp_s (i := .bipush (-14)) (n := 2) (pc' := 38) (st' := [.int (-14)]) rfl rfl ?_
                  refine wp_r (i := .ireturn) (n := 1) (v := some (.int (-14))) rfl rfl ?_
                  exact ⟨rfl, pk_ok0⟩
              · skip
                have q14 : (u).toInt > 40 := by have := mc_f_le hc14; simpa using this
                exfalso; omega
      · skip
        have q6 : (u).toInt > 40 := by have := mc_f_le hc6; simpa using this
        show mm_Wp _ _ _ 20 _ _ _ _
        refine wp_s (i := .iconst (-1)) (n := 1) (pc' := 21) (st' := [.int (-1)]) rfl rfl ?_
        refine wp_r (i := .ireturn) (n := 1) (v := some (.int (-1))) rfl rfl ?_
        refine ⟨(-1), rfl, ⟨_, hb_114⟩, ?_⟩
        show mm_Wp X 12 mm_r187 0 [some (.ref 114), some (.int 3), some (.int w), some (.int u), none] [] _ _
        refine wp_s (i := .iload_n 1) (n := 1) (pc' := 1) (st' := [.int 3]) rfl rfl ?_
        refine wp_s (i := .i2l) (n := 1) (pc' := 2) (st' := [.long 3]) rfl rfl ?_
        refine wp_s (i := .lconst 0) (n := 1) (pc' := 3) (st' := [.long 0, .long 3]) rfl rfl ?_
        refine wp_s (i := .ldc2_w 285) (n := 3) (pc' := 6) (st' := [.long 3, .long 0, .long 3]) rfl rfl ?_
        refine wp_c (i := .invokestatic 81) (n := 3) (Dq := 11) (r' := mm_r120) (as := [.long 3, .long 0, .long 3]) (rest := []) (ls' := [some (.long 3), none, some (.long 0), none, some (.long 3), none]) rfl rfl rfl ?_
        refine wp_x 16 (v := some (.int 1)) (h' := hp_0) (mm_dec (by decide +kernel)) ?_
        show mm_Wp X 12 mm_r187 9 [some (.ref 114), some (.int 3), some (.int w), some (.int u), none] [.int 1] _ _
        refine wp_s (i := .ifCond .eq 21) (n := 3) (pc' := 12) (st' := []) rfl rfl ?_
        refine wp_s (i := .iload_n 2) (n := 1) (pc' := 13) (st' := [.int w]) rfl rfl ?_
        refine wp_s (i := .i2l) (n := 1) (pc' := 14) (st' := [.long ((w).toInt64)]) rfl rfl ?_
        refine wp_s (i := .lconst 0) (n := 1) (pc' := 15) (st' := [.long 0, .long ((w).toInt64)]) rfl rfl ?_
        refine wp_s (i := .ldc2_w 198) (n := 3) (pc' := 18) (st' := [.long 2, .long 0, .long ((w).toInt64)]) rfl rfl ?_
        refine wp_c (i := .invokestatic 81) (n := 3) (Dq := 11) (r' := mm_r120) (as := [.long ((w).toInt64), .long 0, .long 2]) (rest := []) (ls' := [some (.long ((w).toInt64)), none, some (.long 0), none, some (.long 2), none]) rfl rfl rfl ?_
        refine wp_s (i := .lload_n 0) (n := 1) (pc' := 1) (st' := [.long ((w).toInt64)]) rfl rfl ?_
        refine wp_s (i := .lload_n 2) (n := 1) (pc' := 2) (st' := [.long 0, .long ((w).toInt64)]) rfl rfl ?_
        refine wp_s (i := .lcmp) (n := 1) (pc' := 3) (st' := [.int (lg_cmp ((w).toInt64) 0)]) rfl rfl ?_
        refine wp_if (t := 17) (st := []) rfl rfl (fun hc16 => ?_) (fun hc16 => ?_)
        · skip
          have q16 : (w).toInt < 0 := by have := lc_t_lt hc16; simpa using this
          exfalso; omega
        · skip
          have q16 : (w).toInt ≥ 0 := by have := lc_f_lt hc16; simpa using this
          show mm_Wp _ _ _ 6 _ _ _ _
          refine wp_s (i := .lload_n 0) (n := 1) (pc' := 7) (st' := [.long ((w).toInt64)]) rfl rfl ?_
          refine wp_s (i := .lload 4) (n := 2) (pc' := 9) (st' := [.long 2, .long ((w).toInt64)]) rfl rfl ?_
          refine wp_s (i := .lcmp) (n := 1) (pc' := 10) (st' := [.int (lg_cmp ((w).toInt64) 2)]) rfl rfl ?_
          refine wp_if (t := 17) (st := []) rfl rfl (fun hc17 => ?_) (fun hc17 => ?_)
          · skip
            have q17 : (w).toInt > 2 := by have := lc_t_gt hc17; simpa using this
            exfalso; omega
          · skip
            have q17 : (w).toInt ≤ 2 := by have := lc_f_gt hc17; simpa using this
            show mm_Wp _ _ _ 13 _ _ _ _
            refine wp_s (i := .iconst 1) (n := 1) (pc' := 14) (st' := [.int 1]) rfl rfl ?_
            refine wp_s (i := .goto 4) (n := 3) (pc' := 18) (st' := [.int 1]) rfl rfl ?_
            refine wp_r (i := .ireturn) (n := 1) (v := some (.int 1)) rfl rfl ?_
            show mm_Wp X 12 mm_r187 21 [some (.ref 114), some (.int 3), some (.int w), some (.int u), none] [.int 1] _ _
            refine wp_s (i := .ifCond .eq 9) (n := 3) (pc' := 24) (st' := []) rfl rfl ?_
            refine wp_s (i := .iload_n 3) (n := 1) (pc' := 25) (st' := [.int u]) rfl rfl ?_
            refine wp_s (i := .bipush 40) (n := 2) (pc' := 27) (st' := [.int 40, .int u]) rfl rfl ?_
            refine wp_ic (t := 32) (st := []) rfl rfl (fun hc18 => ?_) (fun hc18 => ?_)
            · skip
              have q18 : (u).toInt ≤ 40 := by have := mc_t_le hc18; simpa using this
              exfalso; omega
            · skip
              have q18 : (u).toInt > 40 := by have := mc_f_le hc18; simpa using this
              show mm_Wp _ _ _ 30 _ _ _ _
              refine wp_s (i := .iconst (-1)) (n := 1) (pc' := 31) (st' := [.int (-1)]) rfl rfl ?_
              refine wp_r (i := .ireturn) (n := 1) (v := some (.int (-1))) rfl rfl ?_
              exact ⟨rfl, pk_ok0⟩
set_option maxRecDepth 20000 in
set_option maxHeartbeats 4000000 in
theorem pk_33_o (X : Option (List Int32)) (n w u : Int32) (he0 : ¬ n = 0) (he1 : ¬ n = 1) (he2 : ¬ n = 2) (he3 : ¬ n = 3) : mm_Wp X 12 mm_r98 0 [some (.ref 0), some (.int n), some (.int w), some (.int u)] [] hp_0 (fun v1 h1 => ∃ x : Int32, v1 = some (.int x) ∧ (∃ fs, h1[114]? = some (.inr (10, fs))) ∧ mm_Wp X 12 mm_r187 0 [some (.ref 114), some (.int n), some (.int w), some (.int u), none] [] h1 (fun v2 h2 => v2 = some (.int x) ∧ pk_ok h2)) := by
  have hf0 : n.toInt ≠ 0 := fun q => he0 (Int32.toInt_inj.mp (by rw [q]; rfl))
  have hf1 : n.toInt ≠ 1 := fun q => he1 (Int32.toInt_inj.mp (by rw [q]; rfl))
  have hf2 : n.toInt ≠ 2 := fun q => he2 (Int32.toInt_inj.mp (by rw [q]; rfl))
  have hf3 : n.toInt ≠ 3 := fun q => he3 (Int32.toInt_inj.mp (by rw [q]; rfl))
  refine wp_s (i := .iload_n 1) (n := 1) (pc' := 1) (st' := [.int n]) rfl rfl ?_
  refine wp_c (i := .invokestatic 301) (n := 3) (Dq := 11) (r' := mm_r107) (as := [.int n]) (rest := []) (ls' := [some (.int n)]) rfl rfl rfl ?_
  refine wp_s (i := .iload_n 0) (n := 1) (pc' := 1) (st' := [.int n]) rfl rfl ?_
  refine wp_if (t := 13) (st := []) rfl rfl (fun hc1 => ?_) (fun hc1 => ?_)
  · skip
    have q1 : (n).toInt < 0 := by have := mc_t_lt hc1; simpa using this
    show mm_Wp _ _ _ 13 _ _ _ _
    refine wp_s (i := .iconst 0) (n := 1) (pc' := 14) (st' := [.int 0]) rfl rfl ?_
    refine wp_r (i := .ireturn) (n := 1) (v := some (.int 0)) rfl rfl ?_
    show mm_Wp X 12 mm_r98 4 [some (.ref 0), some (.int n), some (.int w), some (.int u)] [.int 0] _ _
    refine wp_s (i := .ifCond .eq 16) (n := 3) (pc' := 20) (st' := []) rfl rfl ?_
    refine wp_s (i := .iconst (-1)) (n := 1) (pc' := 21) (st' := [.int (-1)]) rfl rfl ?_
    refine wp_r (i := .ireturn) (n := 1) (v := some (.int (-1))) rfl rfl ?_
    refine ⟨(-1), rfl, ⟨_, hb_114⟩, ?_⟩
    show mm_Wp X 12 mm_r187 0 [some (.ref 114), some (.int n), some (.int w), some (.int u), none] [] _ _
    refine wp_s (i := .iload_n 1) (n := 1) (pc' := 1) (st' := [.int n]) rfl rfl ?_
    refine wp_s (i := .i2l) (n := 1) (pc' := 2) (st' := [.long ((n).toInt64)]) rfl rfl ?_
    refine wp_s (i := .lconst 0) (n := 1) (pc' := 3) (st' := [.long 0, .long ((n).toInt64)]) rfl rfl ?_
    refine wp_s (i := .ldc2_w 285) (n := 3) (pc' := 6) (st' := [.long 3, .long 0, .long ((n).toInt64)]) rfl rfl ?_
    refine wp_c (i := .invokestatic 81) (n := 3) (Dq := 11) (r' := mm_r120) (as := [.long ((n).toInt64), .long 0, .long 3]) (rest := []) (ls' := [some (.long ((n).toInt64)), none, some (.long 0), none, some (.long 3), none]) rfl rfl rfl ?_
    refine wp_s (i := .lload_n 0) (n := 1) (pc' := 1) (st' := [.long ((n).toInt64)]) rfl rfl ?_
    refine wp_s (i := .lload_n 2) (n := 1) (pc' := 2) (st' := [.long 0, .long ((n).toInt64)]) rfl rfl ?_
    refine wp_s (i := .lcmp) (n := 1) (pc' := 3) (st' := [.int (lg_cmp ((n).toInt64) 0)]) rfl rfl ?_
    refine wp_if (t := 17) (st := []) rfl rfl (fun hc2 => ?_) (fun hc2 => ?_)
    · skip
      have q2 : (n).toInt < 0 := by have := lc_t_lt hc2; simpa using this
      show mm_Wp _ _ _ 17 _ _ _ _
      refine wp_s (i := .iconst 0) (n := 1) (pc' := 18) (st' := [.int 0]) rfl rfl ?_
      refine wp_r (i := .ireturn) (n := 1) (v := some (.int 0)) rfl rfl ?_
      show mm_Wp X 12 mm_r187 9 [some (.ref 114), some (.int n), some (.int w), some (.int u), none] [.int 0] _ _
      refine wp_s (i := .ifCond .eq 21) (n := 3) (pc' := 30) (st' := []) rfl rfl ?_
      refine wp_s (i := .iconst (-1)) (n := 1) (pc' := 31) (st' := [.int (-1)]) rfl rfl ?_
      refine wp_r (i := .ireturn) (n := 1) (v := some (.int (-1))) rfl rfl ?_
      exact ⟨rfl, pk_ok0⟩
    · skip
      have q2 : (n).toInt ≥ 0 := by have := lc_f_lt hc2; simpa using this
      exfalso; omega
  · skip
    have q1 : (n).toInt ≥ 0 := by have := mc_f_lt hc1; simpa using this
    show mm_Wp _ _ _ 4 _ _ _ _
    refine wp_s (i := .iload_n 0) (n := 1) (pc' := 5) (st' := [.int n]) rfl rfl ?_
    refine wp_s (i := .iconst 4) (n := 1) (pc' := 6) (st' := [.int 4, .int n]) rfl rfl ?_
    refine wp_ic (t := 13) (st := []) rfl rfl (fun hc3 => ?_) (fun hc3 => ?_)
    · skip
      have q3 : (n).toInt ≥ 4 := by have := mc_t_ge hc3; simpa using this
      show mm_Wp _ _ _ 13 _ _ _ _
      refine wp_s (i := .iconst 0) (n := 1) (pc' := 14) (st' := [.int 0]) rfl rfl ?_
      refine wp_r (i := .ireturn) (n := 1) (v := some (.int 0)) rfl rfl ?_
      show mm_Wp X 12 mm_r98 4 [some (.ref 0), some (.int n), some (.int w), some (.int u)] [.int 0] _ _
      refine wp_s (i := .ifCond .eq 16) (n := 3) (pc' := 20) (st' := []) rfl rfl ?_
      refine wp_s (i := .iconst (-1)) (n := 1) (pc' := 21) (st' := [.int (-1)]) rfl rfl ?_
      refine wp_r (i := .ireturn) (n := 1) (v := some (.int (-1))) rfl rfl ?_
      refine ⟨(-1), rfl, ⟨_, hb_114⟩, ?_⟩
      show mm_Wp X 12 mm_r187 0 [some (.ref 114), some (.int n), some (.int w), some (.int u), none] [] _ _
      refine wp_s (i := .iload_n 1) (n := 1) (pc' := 1) (st' := [.int n]) rfl rfl ?_
      refine wp_s (i := .i2l) (n := 1) (pc' := 2) (st' := [.long ((n).toInt64)]) rfl rfl ?_
      refine wp_s (i := .lconst 0) (n := 1) (pc' := 3) (st' := [.long 0, .long ((n).toInt64)]) rfl rfl ?_
      refine wp_s (i := .ldc2_w 285) (n := 3) (pc' := 6) (st' := [.long 3, .long 0, .long ((n).toInt64)]) rfl rfl ?_
      refine wp_c (i := .invokestatic 81) (n := 3) (Dq := 11) (r' := mm_r120) (as := [.long ((n).toInt64), .long 0, .long 3]) (rest := []) (ls' := [some (.long ((n).toInt64)), none, some (.long 0), none, some (.long 3), none]) rfl rfl rfl ?_
      refine wp_s (i := .lload_n 0) (n := 1) (pc' := 1) (st' := [.long ((n).toInt64)]) rfl rfl ?_
      refine wp_s (i := .lload_n 2) (n := 1) (pc' := 2) (st' := [.long 0, .long ((n).toInt64)]) rfl rfl ?_
      refine wp_s (i := .lcmp) (n := 1) (pc' := 3) (st' := [.int (lg_cmp ((n).toInt64) 0)]) rfl rfl ?_
      refine wp_if (t := 17) (st := []) rfl rfl (fun hc4 => ?_) (fun hc4 => ?_)
      · skip
        have q4 : (n).toInt < 0 := by have := lc_t_lt hc4; simpa using this
        exfalso; omega
      · skip
        have q4 : (n).toInt ≥ 0 := by have := lc_f_lt hc4; simpa using this
        show mm_Wp _ _ _ 6 _ _ _ _
        refine wp_s (i := .lload_n 0) (n := 1) (pc' := 7) (st' := [.long ((n).toInt64)]) rfl rfl ?_
        refine wp_s (i := .lload 4) (n := 2) (pc' := 9) (st' := [.long 3, .long ((n).toInt64)]) rfl rfl ?_
        refine wp_s (i := .lcmp) (n := 1) (pc' := 10) (st' := [.int (lg_cmp ((n).toInt64) 3)]) rfl rfl ?_
        refine wp_if (t := 17) (st := []) rfl rfl (fun hc5 => ?_) (fun hc5 => ?_)
        · skip
          have q5 : (n).toInt > 3 := by have := lc_t_gt hc5; simpa using this
          show mm_Wp _ _ _ 17 _ _ _ _
          refine wp_s (i := .iconst 0) (n := 1) (pc' := 18) (st' := [.int 0]) rfl rfl ?_
          refine wp_r (i := .ireturn) (n := 1) (v := some (.int 0)) rfl rfl ?_
          show mm_Wp X 12 mm_r187 9 [some (.ref 114), some (.int n), some (.int w), some (.int u), none] [.int 0] _ _
          refine wp_s (i := .ifCond .eq 21) (n := 3) (pc' := 30) (st' := []) rfl rfl ?_
          refine wp_s (i := .iconst (-1)) (n := 1) (pc' := 31) (st' := [.int (-1)]) rfl rfl ?_
          refine wp_r (i := .ireturn) (n := 1) (v := some (.int (-1))) rfl rfl ?_
          exact ⟨rfl, pk_ok0⟩
        · skip
          have q5 : (n).toInt ≤ 3 := by have := lc_f_gt hc5; simpa using this
          exfalso; omega
    · skip
      have q3 : (n).toInt < 4 := by have := mc_f_ge hc3; simpa using this
      exfalso; omega
theorem pk_33 (X : Option (List Int32)) (n w u : Int32) : mm_Wp X 12 mm_r98 0 [some (.ref 0), some (.int n), some (.int w), some (.int u)] [] hp_0 (fun v1 h1 => ∃ x : Int32, v1 = some (.int x) ∧ (∃ fs, h1[114]? = some (.inr (10, fs))) ∧ mm_Wp X 12 mm_r187 0 [some (.ref 114), some (.int n), some (.int w), some (.int u), none] [] h1 (fun v2 h2 => v2 = some (.int x) ∧ pk_ok h2)) := by
  by_cases he0 : n = 0
  · subst he0; exact pk_33_0 X w u
  by_cases he1 : n = 1
  · subst he1; exact pk_33_1 X w u
  by_cases he2 : n = 2
  · subst he2; exact pk_33_2 X w u
  by_cases he3 : n = 3
  · subst he3; exact pk_33_3 X w u
  exact pk_33_o X n w u he0 he1 he2 he3
