set_option maxRecDepth 20000 in
set_option maxHeartbeats 4000000 in
theorem pk_35_0 (X : Option (List Int32)) (w u z : Int32) : mm_Wp X 12 mm_r100 0 [some (.ref 0), some (.int 0), some (.int w), some (.int u), some (.int z), none, none, none, none] [] hp_0 (fun v1 h1 => ∃ x : Int32, v1 = some (.int x) ∧ (∃ fs, h1[114]? = some (.inr (10, fs))) ∧ mm_Wp X 12 mm_r189 0 [some (.ref 114), some (.int 0), some (.int w), some (.int u), some (.int z), none, none, none] [] h1 (fun v2 h2 => v2 = some (.int x) ∧ pk_ok h2)) := by
  refine wp_s (i := .iload_n 1) (n := 1) (pc' := 1) (st' := [.int 0]) rfl rfl ?_
  refine wp_c (i := .invokestatic 301) (n := 3) (Dq := 11) (r' := mm_r107) (as := [.int 0]) (rest := []) (ls' := [some (.int 0)]) rfl rfl rfl ?_
  refine wp_x 13 (v := some (.int 1)) (h' := hp_0) (mm_dec (by decide +kernel)) ?_
  show mm_Wp X 12 mm_r100 4 [some (.ref 0), some (.int 0), some (.int w), some (.int u), some (.int z), none, none, none, none] [.int 1] _ _
  refine wp_s (i := .ifCond .eq 22) (n := 3) (pc' := 7) (st' := []) rfl rfl ?_
  refine wp_s (i := .iload_n 2) (n := 1) (pc' := 8) (st' := [.int w]) rfl rfl ?_
  refine wp_c (i := .invokestatic 304) (n := 3) (Dq := 11) (r' := mm_r108) (as := [.int w]) (rest := []) (ls' := [some (.int w)]) rfl rfl rfl ?_
  refine wp_s (i := .iload_n 0) (n := 1) (pc' := 1) (st' := [.int w]) rfl rfl ?_
  refine wp_if (t := 13) (st := []) rfl rfl (fun hc1 => ?_) (fun hc1 => ?_)
  · skip
    have q1 : (w).toInt < 0 := by have := mc_t_lt hc1; simpa using this
    show mm_Wp _ _ _ 13 _ _ _ _
    refine wp_s (i := .iconst 0) (n := 1) (pc' := 14) (st' := [.int 0]) rfl rfl ?_
    refine wp_r (i := .ireturn) (n := 1) (v := some (.int 0)) rfl rfl ?_
    show mm_Wp X 12 mm_r100 11 [some (.ref 0), some (.int 0), some (.int w), some (.int u), some (.int z), none, none, none, none] [.int 0] _ _
    refine wp_s (i := .ifCond .eq 15) (n := 3) (pc' := 26) (st' := []) rfl rfl ?_
    refine wp_s (i := .iconst (-1)) (n := 1) (pc' := 27) (st' := [.int (-1)]) rfl rfl ?_
    refine wp_r (i := .ireturn) (n := 1) (v := some (.int (-1))) rfl rfl ?_
    refine ⟨(-1), rfl, ⟨_, hb_114⟩, ?_⟩
    show mm_Wp X 12 mm_r189 0 [some (.ref 114), some (.int 0), some (.int w), some (.int u), some (.int z), none, none, none] [] _ _
    refine wp_s (i := .iload_n 1) (n := 1) (pc' := 1) (st' := [.int 0]) rfl rfl ?_
    refine wp_s (i := .i2l) (n := 1) (pc' := 2) (st' := [.long 0]) rfl rfl ?_
    refine wp_s (i := .lconst 0) (n := 1) (pc' := 3) (st' := [.long 0, .long 0]) rfl rfl ?_
    refine wp_s (i := .ldc2_w 285) (n := 3) (pc' := 6) (st' := [.long 3, .long 0, .long 0]) rfl rfl ?_
    refine wp_c (i := .invokestatic 81) (n := 3) (Dq := 11) (r' := mm_r120) (as := [.long 0, .long 0, .long 3]) (rest := []) (ls' := [some (.long 0), none, some (.long 0), none, some (.long 3), none]) rfl rfl rfl ?_
    refine wp_x 16 (v := some (.int 1)) (h' := hp_0) (mm_dec (by decide +kernel)) ?_
    show mm_Wp X 12 mm_r189 9 [some (.ref 114), some (.int 0), some (.int w), some (.int u), some (.int z), none, none, none] [.int 1] _ _
    refine wp_s (i := .ifCond .eq 28) (n := 3) (pc' := 12) (st' := []) rfl rfl ?_
    refine wp_s (i := .iload_n 2) (n := 1) (pc' := 13) (st' := [.int w]) rfl rfl ?_
    refine wp_s (i := .i2l) (n := 1) (pc' := 14) (st' := [.long ((w).toInt64)]) rfl rfl ?_
    refine wp_s (i := .lconst 0) (n := 1) (pc' := 15) (st' := [.long 0, .long ((w).toInt64)]) rfl rfl ?_
    refine wp_s (i := .ldc2_w 198) (n := 3) (pc' := 18) (st' := [.long 2, .long 0, .long ((w).toInt64)]) rfl rfl ?_
    refine wp_c (i := .invokestatic 81) (n := 3) (Dq := 11) (r' := mm_r120) (as := [.long ((w).toInt64), .long 0, .long 2]) (rest := []) (ls' := [some (.long ((w).toInt64)), none, some (.long 0), none, some (.long 2), none]) rfl rfl rfl ?_
    refine wp_s (i := .lload_n 0) (n := 1) (pc' := 1) (st' := [.long ((w).toInt64)]) rfl rfl ?_
    refine wp_s (i := .lload_n 2) (n := 1) (pc' := 2) (st' := [.long 0, .long ((w).toInt64)]) rfl rfl ?_
    refine wp_s (i := .lcmp) (n := 1) (pc' := 3) (st' := [.int (lg_cmp ((w).toInt64) 0)]) rfl rfl ?_
    refine wp_if (t := 17) (st := []) rfl rfl (fun hc2 => ?_) (fun hc2 => ?_)
    · skip
      have q2 : (w).toInt < 0 := by have := lc_t_lt hc2; simpa using this
      show mm_Wp _ _ _ 17 _ _ _ _
      refine wp_s (i := .iconst 0) (n := 1) (pc' := 18) (st' := [.int 0]) rfl rfl ?_
      refine wp_r (i := .ireturn) (n := 1) (v := some (.int 0)) rfl rfl ?_
      show mm_Wp X 12 mm_r189 21 [some (.ref 114), some (.int 0), some (.int w), some (.int u), some (.int z), none, none, none] [.int 0] _ _
      refine wp_s (i := .ifCond .eq 16) (n := 3) (pc' := 37) (st' := []) rfl rfl ?_
      refine wp_s (i := .iconst (-1)) (n := 1) (pc' := 38) (st' := [.int (-1)]) rfl rfl ?_
      refine wp_r (i := .ireturn) (n := 1) (v := some (.int (-1))) rfl rfl ?_
      exact ⟨rfl, pk_ok0⟩
    · skip
      have q2 : (w).toInt ≥ 0 := by have := lc_f_lt hc2; simpa using this
      exfalso; omega
  · skip
    have q1 : (w).toInt ≥ 0 := by have := mc_f_lt hc1; simpa using this
    show mm_Wp _ _ _ 4 _ _ _ _
    refine wp_s (i := .iload_n 0) (n := 1) (pc' := 5) (st' := [.int w]) rfl rfl ?_
    refine wp_s (i := .iconst 3) (n := 1) (pc' := 6) (st' := [.int 3, .int w]) rfl rfl ?_
    refine wp_ic (t := 13) (st := []) rfl rfl (fun hc3 => ?_) (fun hc3 => ?_)
    · skip
      have q3 : (w).toInt ≥ 3 := by have := mc_t_ge hc3; simpa using this
      show mm_Wp _ _ _ 13 _ _ _ _
      refine wp_s (i := .iconst 0) (n := 1) (pc' := 14) (st' := [.int 0]) rfl rfl ?_
      refine wp_r (i := .ireturn) (n := 1) (v := some (.int 0)) rfl rfl ?_
      show mm_Wp X 12 mm_r100 11 [some (.ref 0), some (.int 0), some (.int w), some (.int u), some (.int z), none, none, none, none] [.int 0] _ _
      refine wp_s (i := .ifCond .eq 15) (n := 3) (pc' := 26) (st' := []) rfl rfl ?_
      refine wp_s (i := .iconst (-1)) (n := 1) (pc' := 27) (st' := [.int (-1)]) rfl rfl ?_
      refine wp_r (i := .ireturn) (n := 1) (v := some (.int (-1))) rfl rfl ?_
      refine ⟨(-1), rfl, ⟨_, hb_114⟩, ?_⟩
      show mm_Wp X 12 mm_r189 0 [some (.ref 114), some (.int 0), some (.int w), some (.int u), some (.int z), none, none, none] [] _ _
      refine wp_s (i := .iload_n 1) (n := 1) (pc' := 1) (st' := [.int 0]) rfl rfl ?_
      refine wp_s (i := .i2l) (n := 1) (pc' := 2) (st' := [.long 0]) rfl rfl ?_
      refine wp_s (i := .lconst 0) (n := 1) (pc' := 3) (st' := [.long 0, .long 0]) rfl rfl ?_
      refine wp_s (i := .ldc2_w 285) (n := 3) (pc' := 6) (st' := [.long 3, .long 0, .long 0]) rfl rfl ?_
      refine wp_c (i := .invokestatic 81) (n := 3) (Dq := 11) (r' := mm_r120) (as := [.long 0, .long 0, .long 3]) (rest := []) (ls' := [some (.long 0), none, some (.long 0), none, some (.long 3), none]) rfl rfl rfl ?_
      refine wp_x 16 (v := some (.int 1)) (h' := hp_0) (mm_dec (by decide +kernel)) ?_
      show mm_Wp X 12 mm_r189 9 [some (.ref 114), some (.int 0), some (.int w), some (.int u), some (.int z), none, none, none] [.int 1] _ _
      refine wp_s (i := .ifCond .eq 28) (n := 3) (pc' := 12) (st' := []) rfl rfl ?_
      refine wp_s (i := .iload_n 2) (n := 1) (pc' := 13) (st' := [.int w]) rfl rfl ?_
      refine wp_s (i := .i2l) (n := 1) (pc' := 14) (st' := [.long ((w).toInt64)]) rfl rfl ?_
      refine wp_s (i := .lconst 0) (n := 1) (pc' := 15) (st' := [.long 0, .long ((w).toInt64)]) rfl rfl ?_
      refine wp_s (i := .ldc2_w 198) (n := 3) (pc' := 18) (st' := [.long 2, .long 0, .long ((w).toInt64)]) rfl rfl ?_
      refine wp_c (i := .invokestatic 81) (n := 3) (Dq := 11) (r' := mm_r120) (as := [.long ((w).toInt64), .long 0, .long 2]) (rest := []) (ls' := [some (.long ((w).toInt64)), none, some (.long 0), none, some (.long 2), none]) rfl rfl rfl ?_
      refine wp_s (i := .lload_n 0) (n := 1) (pc' := 1) (st' := [.long ((w).toInt64)]) rfl rfl ?_
      refine wp_s (i := .lload_n 2) (n := 1) (pc' := 2) (st' := [.long 0, .long ((w).toInt64)]) rfl rfl ?_
      refine wp_s (i := .lcmp) (n := 1) (pc' := 3) (st' := [.int (lg_cmp ((w).toInt64) 0)]) rfl rfl ?_
      refine wp_if (t := 17) (st := []) rfl rfl (fun hc4 => ?_) (fun hc4 => ?_)
      · skip
        have q4 : (w).toInt < 0 := by have := lc_t_lt hc4; simpa using this
        exfalso; omega
      · skip
        have q4 : (w).toInt ≥ 0 := by have := lc_f_lt hc4; simpa using this
        show mm_Wp _ _ _ 6 _ _ _ _
        refine wp_s (i := .lload_n 0) (n := 1) (pc' := 7) (st' := [.long ((w).toInt64)]) rfl rfl ?_
        refine wp_s (i := .lload 4) (n := 2) (pc' := 9) (st' := [.long 2, .long ((w).toInt64)]) rfl rfl ?_
        refine wp_s (i := .lcmp) (n := 1) (pc' := 10) (st' := [.int (lg_cmp ((w).toInt64) 2)]) rfl rfl ?_
        refine wp_if (t := 17) (st := []) rfl rfl (fun hc5 => ?_) (fun hc5 => ?_)
        · skip
          have q5 : (w).toInt > 2 := by have := lc_t_gt hc5; simpa using this
          show mm_Wp _ _ _ 17 _ _ _ _
          refine wp_s (i := .iconst 0) (n := 1) (pc' := 18) (st' := [.int 0]) rfl rfl ?_
          refine wp_r (i := .ireturn) (n := 1) (v := some (.int 0)) rfl rfl ?_
          show mm_Wp X 12 mm_r189 21 [some (.ref 114), some (.int 0), some (.int w), some (.int u), some (.int z), none, none, none] [.int 0] _ _
          refine wp_s (i := .ifCond .eq 16) (n := 3) (pc' := 37) (st' := []) rfl rfl ?_
          refine wp_s (i := .iconst (-1)) (n := 1) (pc' := 38) (st' := [.int (-1)]) rfl rfl ?_
          refine wp_r (i := .ireturn) (n := 1) (v := some (.int (-1))) rfl rfl ?_
          exact ⟨rfl, pk_ok0⟩
        · skip
          have q5 : (w).toInt ≤ 2 := by have := lc_f_gt hc5; simpa using this
          exfalso; omega
    · skip
      have q3 : (w).toInt < 3 := by have := mc_f_ge hc3; simpa using this
      show mm_Wp _ _ _ 9 _ _ _ _
      refine wp_s (i := .iconst 1) (n := 1) (pc' := 10) (st' := [.int 1]) rfl rfl ?_
      refine wp_s (i := .goto 4) (n := 3) (pc' := 14) (st' := [.int 1]) rfl rfl ?_
      refine wp_r (i := .ireturn) (n := 1) (v := some (.int 1)) rfl rfl ?_
      show mm_Wp X 12 mm_r100 11 [some (.ref 0), some (.int 0), some (.int w), some (.int u), some (.int z), none, none, none, none] [.int 1] _ _
      refine wp_s (i := .ifCond .eq 15) (n := 3) (pc' := 14) (st' := []) rfl rfl ?_
      refine wp_s (i := .iload 4) (n := 2) (pc' := 16) (st' := [.int z]) rfl rfl ?_
      refine wp_if (t := 26) (st := []) rfl rfl (fun hc6 => ?_) (fun hc6 => ?_)
      · skip
        have q6 : (z).toInt < 0 := by have := mc_t_lt hc6; simpa using this
        show mm_Wp _ _ _ 26 _ _ _ _
        refine wp_s (i := .iconst (-1)) (n := 1) (pc' := 27) (st' := [.int (-1)]) rfl rfl ?_
        refine wp_r (i := .ireturn) (n := 1) (v := some (.int (-1))) rfl rfl ?_
        refine ⟨(-1), rfl, ⟨_, hb_114⟩, ?_⟩
        show mm_Wp X 12 mm_r189 0 [some (.ref 114), some (.int 0), some (.int w), some (.int u), some (.int z), none, none, none] [] _ _
        refine wp_s (i := .iload_n 1) (n := 1) (pc' := 1) (st' := [.int 0]) rfl rfl ?_
        refine wp_s (i := .i2l) (n := 1) (pc' := 2) (st' := [.long 0]) rfl rfl ?_
        refine wp_s (i := .lconst 0) (n := 1) (pc' := 3) (st' := [.long 0, .long 0]) rfl rfl ?_
        refine wp_s (i := .ldc2_w 285) (n := 3) (pc' := 6) (st' := [.long 3, .long 0, .long 0]) rfl rfl ?_
        refine wp_c (i := .invokestatic 81) (n := 3) (Dq := 11) (r' := mm_r120) (as := [.long 0, .long 0, .long 3]) (rest := []) (ls' := [some (.long 0), none, some (.long 0), none, some (.long 3), none]) rfl rfl rfl ?_
        refine wp_x 16 (v := some (.int 1)) (h' := hp_0) (mm_dec (by decide +kernel)) ?_
        show mm_Wp X 12 mm_r189 9 [some (.ref 114), some (.int 0), some (.int w), some (.int u), some (.int z), none, none, none] [.int 1] _ _
        refine wp_s (i := .ifCond .eq 28) (n := 3) (pc' := 12) (st' := []) rfl rfl ?_
        refine wp_s (i := .iload_n 2) (n := 1) (pc' := 13) (st' := [.int w]) rfl rfl ?_
        refine wp_s (i := .i2l) (n := 1) (pc' := 14) (st' := [.long ((w).toInt64)]) rfl rfl ?_
        refine wp_s (i := .lconst 0) (n := 1) (pc' := 15) (st' := [.long 0, .long ((w).toInt64)]) rfl rfl ?_
        refine wp_s (i := .ldc2_w 198) (n := 3) (pc' := 18) (st' := [.long 2, .long 0, .long ((w).toInt64)]) rfl rfl ?_
        refine wp_c (i := .invokestatic 81) (n := 3) (Dq := 11) (r' := mm_r120) (as := [.long ((w).toInt64), .long 0, .long 2]) (rest := []) (ls' := [some (.long ((w).toInt64)), none, some (.long 0), none, some (.long 2), none]) rfl rfl rfl ?_
        refine wp_s (i := .lload_n 0) (n := 1) (pc' := 1) (st' := [.long ((w).toInt64)]) rfl rfl ?_
        refine wp_s (i := .lload_n 2) (n := 1) (pc' := 2) (st' := [.long 0, .long ((w).toInt64)]) rfl rfl ?_
        refine wp_s (i := .lcmp) (n := 1) (pc' := 3) (st' := [.int (lg_cmp ((w).toInt64) 0)]) rfl rfl ?_
        refine wp_if (t := 17) (st := []) rfl rfl (fun hc7 => ?_) (fun hc7 => ?_)
        · skip
          have q7 : (w).toInt < 0 := by have := lc_t_lt hc7; simpa using this
          exfalso; omega
        · skip
          have q7 : (w).toInt ≥ 0 := by have := lc_f_lt hc7; simpa using this
          show mm_Wp _ _ _ 6 _ _ _ _
          refine wp_s (i := .lload_n 0) (n := 1) (pc' := 7) (st' := [.long ((w).toInt64)]) rfl rfl ?_
          refine wp_s (i := .lload 4) (n := 2) (pc' := 9) (st' := [.long 2, .long ((w).toInt64)]) rfl rfl ?_
          refine wp_s (i := .lcmp) (n := 1) (pc' := 10) (st' := [.int (lg_cmp ((w).toInt64) 2)]) rfl rfl ?_
          refine wp_if (t := 17) (st := []) rfl rfl (fun hc8 => ?_) (fun hc8 => ?_)
          · skip
            have q8 : (w).toInt > 2 := by have := lc_t_gt hc8; simpa using this
            exfalso; omega
          · skip
            have q8 : (w).toInt ≤ 2 := by have := lc_f_gt hc8; simpa using this
            show mm_Wp _ _ _ 13 _ _ _ _
            refine wp_s (i := .iconst 1) (n := 1) (pc' := 14) (st' := [.int 1]) rfl rfl ?_
            refine wp_s (i := .goto 4) (n := 3) (pc' := 18) (st' := [.int 1]) rfl rfl ?_
            refine wp_r (i := .ireturn) (n := 1) (v := some (.int 1)) rfl rfl ?_
            show mm_Wp X 12 mm_r189 21 [some (.ref 114), some (.int 0), some (.int w), some (.int u), some (.int z), none, none, none] [.int 1] _ _
            refine wp_s (i := .ifCond .eq 16) (n := 3) (pc' := 24) (st' := []) rfl rfl ?_
            refine wp_s (i := .iload 4) (n := 2) (pc' := 26) (st' := [.int z]) rfl rfl ?_
            refine wp_s (i := .i2l) (n := 1) (pc' := 27) (st' := [.long ((z).toInt64)]) rfl rfl ?_
            refine wp_s (i := .lconst 0) (n := 1) (pc' := 28) (st' := [.long 0, .long ((z).toInt64)]) rfl rfl ?_
            refine wp_s (i := .ldc2_w 277) (n := 3) (pc' := 31) (st' := [.long 12, .long 0, .long ((z).toInt64)]) rfl rfl ?_
            refine wp_c (i := .invokestatic 81) (n := 3) (Dq := 11) (r' := mm_r120) (as := [.long ((z).toInt64), .long 0, .long 12]) (rest := []) (ls' := [some (.long ((z).toInt64)), none, some (.long 0), none, some (.long 12), none]) rfl rfl rfl ?_
            refine wp_s (i := .lload_n 0) (n := 1) (pc' := 1) (st' := [.long ((z).toInt64)]) rfl rfl ?_
            refine wp_s (i := .lload_n 2) (n := 1) (pc' := 2) (st' := [.long 0, .long ((z).toInt64)]) rfl rfl ?_
            refine wp_s (i := .lcmp) (n := 1) (pc' := 3) (st' := [.int (lg_cmp ((z).toInt64) 0)]) rfl rfl ?_
            refine wp_if (t := 17) (st := []) rfl rfl (fun hc9 => ?_) (fun hc9 => ?_)
            · skip
              have q9 : (z).toInt < 0 := by have := lc_t_lt hc9; simpa using this
              show mm_Wp _ _ _ 17 _ _ _ _
              refine wp_s (i := .iconst 0) (n := 1) (pc' := 18) (st' := [.int 0]) rfl rfl ?_
              refine wp_r (i := .ireturn) (n := 1) (v := some (.int 0)) rfl rfl ?_
              show mm_Wp X 12 mm_r189 34 [some (.ref 114), some (.int 0), some (.int w), some (.int u), some (.int z), none, none, none] [.int 0] _ _
              refine wp_s (i := .ifCond .ne 5) (n := 3) (pc' := 37) (st' := []) rfl rfl ?_
              refine wp_s (i := .iconst (-1)) (n := 1) (pc' := 38) (st' := [.int (-1)]) rfl rfl ?_
              refine wp_r (i := .ireturn) (n := 1) (v := some (.int (-1))) rfl rfl ?_
              exact ⟨rfl, pk_ok0⟩
            · skip
              have q9 : (z).toInt ≥ 0 := by have := lc_f_lt hc9; simpa using this
              exfalso; omega
      · skip
        have q6 : (z).toInt ≥ 0 := by have := mc_f_lt hc6; simpa using this
        show mm_Wp _ _ _ 19 _ _ _ _
        refine wp_s (i := .iload 4) (n := 2) (pc' := 21) (st' := [.int z]) rfl rfl ?_
        refine wp_s (i := .bipush 12) (n := 2) (pc' := 23) (st' := [.int 12, .int z]) rfl rfl ?_
        refine wp_ic (t := 28) (st := []) rfl rfl (fun hc10 => ?_) (fun hc10 => ?_)
        · skip
          have q10 : (z).toInt ≤ 12 := by have := mc_t_le hc10; simpa using this
          show mm_Wp _ _ _ 28 _ _ _ _
          refine wp_s (i := .aload_n 0) (n := 1) (pc' := 29) (st' := [.ref 0]) rfl rfl ?_
          refine wp_gf (idx := 64) (a := 0) (v := .ref 67) (pc' := 32) rfl rfl hb_0 rfl rfl ?_
          refine wp_s (i := .iload_n 1) (n := 1) (pc' := 33) (st' := [.int 0, .ref 67]) rfl rfl ?_
          refine wp_aa (b := 106) (pc' := 34) rfl (by decide) hb_67 rfl rfl rfl ?_
          refine wp_s (i := .astore 5) (n := 2) (pc' := 36) (ls' := [some (.ref 0), some (.int 0), some (.int w), some (.int u), some (.int z), some (.ref 106), none, none, none]) (st' := []) rfl rfl ?_
          refine wp_s (i := .iconst 0) (n := 1) (pc' := 37) (st' := [.int 0]) rfl rfl ?_
          refine wp_s (i := .istore 6) (n := 2) (pc' := 39) (ls' := [some (.ref 0), some (.int 0), some (.int w), some (.int u), some (.int z), some (.ref 106), some (.int 0), none, none]) (st' := []) rfl rfl ?_
          refine wp_s (i := .iconst 0) (n := 1) (pc' := 40) (st' := [.int 0]) rfl rfl ?_
          refine wp_s (i := .istore 7) (n := 2) (pc' := 42) (ls' := [some (.ref 0), some (.int 0), some (.int w), some (.int u), some (.int z), some (.ref 106), some (.int 0), some (.int 0), none]) (st' := []) rfl rfl ?_
          refine wp_s (i := .iload 6) (n := 2) (pc' := 44) (st' := [.int 0]) rfl rfl ?_
          refine wp_s (i := .iload 4) (n := 2) (pc' := 46) (st' := [.int z, .int 0]) rfl rfl ?_
          refine wp_ic (t := 99) (st := []) rfl rfl (fun hc11 => ?_) (fun hc11 => ?_)
          · skip
            show mm_Wp _ _ _ 99 _ _ _ _
            refine wp_s (i := .iconst 0) (n := 1) (pc' := 100) (st' := [.int 0]) rfl rfl ?_
            refine wp_s (i := .istore 8) (n := 2) (pc' := 102) (ls' := [some (.ref 0), some (.int 0), some (.int w), some (.int u), some (.int z), some (.ref 106), some (.int 0), some (.int 0), some (.int 0)]) (st' := []) rfl rfl ?_
            refine wp_s (i := .iload 8) (n := 2) (pc' := 104) (st' := [.int 0]) rfl rfl ?_
            refine wp_s (i := .iload 6) (n := 2) (pc' := 106) (st' := [.int 0, .int 0]) rfl rfl ?_
            refine wp_s (i := .if_icmp .ge 35) (n := 3) (pc' := 141) (st' := []) rfl rfl ?_
            refine wp_s (i := .aload_n 0) (n := 1) (pc' := 142) (st' := [.ref 0]) rfl rfl ?_
            refine wp_s (i := .iload 7) (n := 2) (pc' := 144) (st' := [.int 0, .ref 0]) rfl rfl ?_
            refine wp_pf (idx := 323) (a := 0) (fs' := [.ref 1, .ref 2, .ref 25, .ref 36, .ref 46, .ref 54, .ref 65, .ref 66, .ref 67, .int 0, .int 0]) (pc' := 147) rfl rfl rfl hb_0 rfl rfl rfl rfl rfl ?_
            refine wp_s (i := .iload 6) (n := 2) (pc' := 149) (st' := [.int 0]) rfl rfl ?_
            refine wp_r (i := .ireturn) (n := 1) (v := some (.int 0)) rfl rfl ?_
            refine ⟨0, rfl, ⟨_, (mm_sn rfl hb_114)⟩, ?_⟩
            show mm_Wp X 12 mm_r189 0 [some (.ref 114), some (.int 0), some (.int w), some (.int u), some (.int z), none, none, none] [] _ _
            refine wp_s (i := .iload_n 1) (n := 1) (pc' := 1) (st' := [.int 0]) rfl rfl ?_
            refine wp_s (i := .i2l) (n := 1) (pc' := 2) (st' := [.long 0]) rfl rfl ?_
            refine wp_s (i := .lconst 0) (n := 1) (pc' := 3) (st' := [.long 0, .long 0]) rfl rfl ?_
            refine wp_s (i := .ldc2_w 285) (n := 3) (pc' := 6) (st' := [.long 3, .long 0, .long 0]) rfl rfl ?_
            refine wp_c (i := .invokestatic 81) (n := 3) (Dq := 11) (r' := mm_r120) (as := [.long 0, .long 0, .long 3]) (rest := []) (ls' := [some (.long 0), none, some (.long 0), none, some (.long 3), none]) rfl rfl rfl ?_
            refine wp_x 16 (v := some (.int 1)) (h' := hp_0.set 0 (.inr (9, [.ref 1, .ref 2, .ref 25, .ref 36, .ref 46, .ref 54, .ref 65, .ref 66, .ref 67, .int 0, .int 0]))) (mm_dec (by decide +kernel)) ?_
            show mm_Wp X 12 mm_r189 9 [some (.ref 114), some (.int 0), some (.int w), some (.int u), some (.int z), none, none, none] [.int 1] _ _
            refine wp_s (i := .ifCond .eq 28) (n := 3) (pc' := 12) (st' := []) rfl rfl ?_
            refine wp_s (i := .iload_n 2) (n := 1) (pc' := 13) (st' := [.int w]) rfl rfl ?_
            refine wp_s (i := .i2l) (n := 1) (pc' := 14) (st' := [.long ((w).toInt64)]) rfl rfl ?_
            refine wp_s (i := .lconst 0) (n := 1) (pc' := 15) (st' := [.long 0, .long ((w).toInt64)]) rfl rfl ?_
            refine wp_s (i := .ldc2_w 198) (n := 3) (pc' := 18) (st' := [.long 2, .long 0, .long ((w).toInt64)]) rfl rfl ?_
            refine wp_c (i := .invokestatic 81) (n := 3) (Dq := 11) (r' := mm_r120) (as := [.long ((w).toInt64), .long 0, .long 2]) (rest := []) (ls' := [some (.long ((w).toInt64)), none, some (.long 0), none, some (.long 2), none]) rfl rfl rfl ?_
            refine wp_s (i := .lload_n 0) (n := 1) (pc' := 1) (st' := [.long ((w).toInt64)]) rfl rfl ?_
            refine wp_s (i := .lload_n 2) (n := 1) (pc' := 2) (st' := [.long 0, .long ((w).toInt64)]) rfl rfl ?_
            refine wp_s (i := .lcmp) (n := 1) (pc' := 3) (st' := [.int (lg_cmp ((w).toInt64) 0)]) rfl rfl ?_
            refine wp_if (t := 17) (st := []) rfl rfl (fun hc12 => ?_) (fun hc12 => ?_)
            · skip
              have q12 : (w).toInt < 0 := by have := lc_t_lt hc12; simpa using this
              exfalso; omega
            · skip
              have q12 : (w).toInt ≥ 0 := by have := lc_f_lt hc12; simpa using this
              show mm_Wp _ _ _ 6 _ _ _ _
              refine wp_s (i := .lload_n 0) (n := 1) (pc' := 7) (st' := [.long ((w).toInt64)]) rfl rfl ?_
              refine wp_s (i := .lload 4) (n := 2) (pc' := 9) (st' := [.long 2, .long ((w).toInt64)]) rfl rfl ?_
              refine wp_s (i := .lcmp) (n := 1) (pc' := 10) (st' := [.int (lg_cmp ((w).toInt64) 2)]) rfl rfl ?_
              refine wp_if (t := 17) (st := []) rfl rfl (fun hc13 => ?_) (fun hc13 => ?_)
              · skip
                have q13 : (w).toInt > 2 := by have := lc_t_gt hc13; simpa using this
                exfalso; omega
              · skip
                have q13 : (w).toInt ≤ 2 := by have := lc_f_gt hc13; simpa using this
                show mm_Wp _ _ _ 13 _ _ _ _
                refine wp_s (i := .iconst 1) (n := 1) (pc' := 14) (st' := [.int 1]) rfl rfl ?_
                refine wp_s (i := .goto 4) (n := 3) (pc' := 18) (st' := [.int 1]) rfl rfl ?_
                refine wp_r (i := .ireturn) (n := 1) (v := some (.int 1)) rfl rfl ?_
                show mm_Wp X 12 mm_r189 21 [some (.ref 114), some (.int 0), some (.int w), some (.int u), some (.int z), none, none, none] [.int 1] _ _
                refine wp_s (i := .ifCond .eq 16) (n := 3) (pc' := 24) (st' := []) rfl rfl ?_
                refine wp_s (i := .iload 4) (n := 2) (pc' := 26) (st' := [.int z]) rfl rfl ?_
                refine wp_s (i := .i2l) (n := 1) (pc' := 27) (st' := [.long ((z).toInt64)]) rfl rfl ?_
                refine wp_s (i := .lconst 0) (n := 1) (pc' := 28) (st' := [.long 0, .long ((z).toInt64)]) rfl rfl ?_
                refine wp_s (i := .ldc2_w 277) (n := 3) (pc' := 31) (st' := [.long 12, .long 0, .long ((z).toInt64)]) rfl rfl ?_
                refine wp_c (i := .invokestatic 81) (n := 3) (Dq := 11) (r' := mm_r120) (as := [.long ((z).toInt64), .long 0, .long 12]) (rest := []) (ls' := [some (.long ((z).toInt64)), none, some (.long 0), none, some (.long 12), none]) rfl rfl rfl ?_
                refine wp_s (i := .lload_n 0) (n := 1) (pc' := 1) (st' := [.long ((z).toInt64)]) rfl rfl ?_
                refine wp_s (i := .lload_n 2) (n := 1) (pc' := 2) (st' := [.long 0, .long ((z).toInt64)]) rfl rfl ?_
                refine wp_s (i := .lcmp) (n := 1) (pc' := 3) (st' := [.int (lg_cmp ((z).toInt64) 0)]) rfl rfl ?_
                refine wp_if (t := 17) (st := []) rfl rfl (fun hc14 => ?_) (fun hc14 => ?_)
                · skip
                  have q14 : (z).toInt < 0 := by have := lc_t_lt hc14; simpa using this
                  exfalso; omega
                · skip
                  have q14 : (z).toInt ≥ 0 := by have := lc_f_lt hc14; simpa using this
                  show mm_Wp _ _ _ 6 _ _ _ _
                  refine wp_s (i := .lload_n 0) (n := 1) (pc' := 7) (st' := [.long ((z).toInt64)]) rfl rfl ?_
                  refine wp_s (i := .lload 4) (n := 2) (pc' := 9) (st' := [.long 12, .long ((z).toInt64)]) rfl rfl ?_
                  refine wp_s (i := .lcmp) (n := 1) (pc' := 10) (st' := [.int (lg_cmp ((z).toInt64) 12)]) rfl rfl ?_
                  refine wp_if (t := 17) (st := []) rfl rfl (fun hc15 => ?_) (fun hc15 => ?_)
                  · skip
                    have q15 : (z).toInt > 12 := by have := lc_t_gt hc15; simpa using this
                    exfalso; omega
                  · skip
                    have q15 : (z).toInt ≤ 12 := by have := lc_f_gt hc15; simpa using this
                    show mm_Wp _ _ _ 13 _ _ _ _
                    refine wp_s (i := .iconst 1) (n := 1) (pc' := 14) (st' := [.int 1]) rfl rfl ?_
                    refine wp_s (i := .goto 4) (n := 3) (pc' := 18) (st' := [.int 1]) rfl rfl ?_
                    refine wp_r (i := .ireturn) (n := 1) (v := some (.int 1)) rfl rfl ?_
                    show mm_Wp X 12 mm_r189 34 [some (.ref 114), some (.int 0), some (.int w), some (.int u), some (.int z), none, none, none] [.int 1] _ _
                    refine wp_s (i := .ifCond .ne 5) (n := 3) (pc' := 39) (st' := []) rfl rfl ?_
                    refine wp_s (i := .iconst 0) (n := 1) (pc' := 40) (st' := [.int 0]) rfl rfl ?_
                    refine wp_s (i := .istore 5) (n := 2) (pc' := 42) (ls' := [some (.ref 114), some (.int 0), some (.int w), some (.int u), some (.int z), some (.int 0), none, none]) (st' := []) rfl rfl ?_
                    refine wp_s (i := .iconst 0) (n := 1) (pc' := 43) (st' := [.int 0]) rfl rfl ?_
                    refine wp_s (i := .istore 6) (n := 2) (pc' := 45) (ls' := [some (.ref 114), some (.int 0), some (.int w), some (.int u), some (.int z), some (.int 0), some (.int 0), none]) (st' := []) rfl rfl ?_
                    refine wp_s (i := .iload 6) (n := 2) (pc' := 47) (st' := [.int 0]) rfl rfl ?_
                    refine wp_s (i := .iload 4) (n := 2) (pc' := 49) (st' := [.int z, .int 0]) rfl rfl ?_
                    refine wp_ic (t := 169) (st := []) rfl rfl (fun hc16 => ?_) (fun hc16 => ?_)
                    · skip
                      show mm_Wp _ _ _ 169 _ _ _ _
                      refine wp_s (i := .iconst 0) (n := 1) (pc' := 170) (st' := [.int 0]) rfl rfl ?_
                      refine wp_s (i := .istore 7) (n := 2) (pc' := 172) (ls' := [some (.ref 114), some (.int 0), some (.int w), some (.int u), some (.int z), some (.int 0), some (.int 0), some (.int 0)]) (st' := []) rfl rfl ?_
                      refine wp_s (i := .iload 7) (n := 2) (pc' := 174) (st' := [.int 0]) rfl rfl ?_
                      refine wp_s (i := .iload 6) (n := 2) (pc' := 176) (st' := [.int 0, .int 0]) rfl rfl ?_
                      refine wp_s (i := .if_icmp .ge 29) (n := 3) (pc' := 205) (st' := []) rfl rfl ?_
                      refine wp_s (i := .aload_n 0) (n := 1) (pc' := 206) (st' := [.ref 114]) rfl rfl ?_
                      refine wp_s (i := .iload 5) (n := 2) (pc' := 208) (st' := [.int 0, .ref 114]) rfl rfl ?_
                      refine wp_pf (idx := 287) (a := 114) (fs' := [.ref 115, .int 0, .int 0, .int 0, .int 0, .int 0, .int 0, .ref 116, .ref 117, .ref 118, .ref 119, .ref 120, .ref 121, .ref 122, .ref 123, .ref 124, .ref 125, .int 0, .int 0, .int 0, .int 0, .ref 126, .int 0, .int 0, .int 0, .int 0, .int 0, .int 0, .int 0, .int 0, .ref 127, .ref 128, .ref 129, .ref 130, .int 0, .ref 131, .ref 132, .int 0, .int 0, .int 0, .int 0, .ref 133, .ref 134, .ref 135, .ref 136, .int 0]) (pc' := 211) rfl rfl rfl (mm_sn rfl hb_114) rfl rfl rfl rfl rfl ?_
                      refine wp_s (i := .iload 6) (n := 2) (pc' := 213) (st' := [.int 0]) rfl rfl ?_
                      refine wp_r (i := .ireturn) (n := 1) (v := some (.int 0)) rfl rfl ?_
                      exact ⟨rfl, (pk_okS (pk_okS pk_ok0 hb_0 rfl) (mm_sn rfl hb_114) rfl)⟩
                    · skip
                      show mm_Wp _ _ _ 52 _ _ _ _
                      refine wp_s (i := .iload 5) (n := 2) (pc' := 54) (st' := [.int 0]) rfl rfl ?_
                      refine wp_s (i := .ifCond .ne 115) (n := 3) (pc' := 57) (st' := []) rfl rfl ?_
                      refine wp_s (i := .aload_n 0) (n := 1) (pc' := 58) (st' := [.ref 114]) rfl rfl ?_
                      refine wp_gf (idx := 68) (a := 114) (v := .ref 134) (pc' := 61) rfl rfl (mm_sn rfl hb_114) rfl rfl ?_
                      refine wp_s (i := .iload_n 1) (n := 1) (pc' := 62) (st' := [.int 0, .ref 134]) rfl rfl ?_
                      refine wp_ia (x := (-4)) (pc' := 63) rfl (mm_sn rfl hb_134) rfl rfl rfl ?_
                      refine wp_s (i := .bipush (-4)) (n := 2) (pc' := 65) (st' := [.int (-4), .int (-4)]) rfl rfl ?_
                      refine wp_s (i := .if_icmp .ne 7) (n := 3) (pc' := 68) (st' := []) rfl rfl ?_
                      refine wp_s (i := .iconst 1) (n := 1) (pc' := 69) (st' := [.int 1]) rfl rfl ?_
                      refine wp_s (i := .goto 44) (n := 3) (pc' := 113) (st' := [.int 1]) rfl rfl ?_
                      refine wp_s (i := .istore 5) (n := 2) (pc' := 115) (ls' := [some (.ref 114), some (.int 0), some (.int w), some (.int u), some (.int z), some (.int 1), some (.int 0), none]) (st' := []) rfl rfl ?_
                      refine wp_s (i := .iload 5) (n := 2) (pc' := 117) (st' := [.int 1]) rfl rfl ?_
                      refine wp_s (i := .ifCond .ne 34) (n := 3) (pc' := 151) (st' := []) rfl rfl ?_
                      refine wp_s (i := .iload 6) (n := 2) (pc' := 153) (st' := [.int 0]) rfl rfl ?_
                      refine wp_s (i := .iload 5) (n := 2) (pc' := 155) (st' := [.int 1, .int 0]) rfl rfl ?_
                      refine wp_s (i := .ifCond .ne 7) (n := 3) (pc' := 162) (st' := [.int 0]) rfl rfl ?_
                      refine wp_s (i := .iconst 0) (n := 1) (pc' := 163) (st' := [.int 0, .int 0]) rfl rfl ?_
                      refine wp_s (i := .iadd) (n := 1) (pc' := 164) (st' := [.int 0]) rfl rfl ?_
                      refine wp_s (i := .istore 6) (n := 2) (pc' := 166) (ls' := [some (.ref 114), some (.int 0), some (.int w), some (.int u), some (.int z), some (.int 1), some (.int 0), none]) (st' := []) rfl rfl ?_
                      refine wp_s (i := .goto (-121)) (n := 3) (pc' := 45) (st' := []) rfl rfl ?_
                      refine wp_s (i := .iload 6) (n := 2) (pc' := 47) (st' := [.int 0]) rfl rfl ?_
                      refine wp_s (i := .iload 4) (n := 2) (pc' := 49) (st' := [.int z, .int 0]) rfl rfl ?_
                      refine wp_ic (t := 169) (st := []) rfl rfl (fun hc17 => ?_) (fun hc17 => ?_)
                      · skip
                        show mm_Wp _ _ _ 169 _ _ _ _
                        refine wp_s (i := .iconst 0) (n := 1) (pc' := 170) (st' := [.int 0]) rfl rfl ?_
                        refine wp_s (i := .istore 7) (n := 2) (pc' := 172) (ls' := [some (.ref 114), some (.int 0), some (.int w), some (.int u), some (.int z), some (.int 1), some (.int 0), some (.int 0)]) (st' := []) rfl rfl ?_
                        refine wp_s (i := .iload 7) (n := 2) (pc' := 174) (st' := [.int 0]) rfl rfl ?_
                        refine wp_s (i := .iload 6) (n := 2) (pc' := 176) (st' := [.int 0, .int 0]) rfl rfl ?_
                        refine wp_s (i := .if_icmp .ge 29) (n := 3) (pc' := 205) (st' := []) rfl rfl ?_
                        refine wp_s (i := .aload_n 0) (n := 1) (pc' := 206) (st' := [.ref 114]) rfl rfl ?_
                        refine wp_s (i := .iload 5) (n := 2) (pc' := 208) (st' := [.int 1, .ref 114]) rfl rfl ?_
                        refine wp_pf (idx := 287) (a := 114) (fs' := [.ref 115, .int 0, .int 0, .int 0, .int 0, .int 0, .int 0, .ref 116, .ref 117, .ref 118, .ref 119, .ref 120, .ref 121, .ref 122, .ref 123, .ref 124, .ref 125, .int 0, .int 0, .int 0, .int 0, .ref 126, .int 0, .int 0, .int 0, .int 0, .int 0, .int 0, .int 0, .int 0, .ref 127, .ref 128, .ref 129, .ref 130, .int 0, .ref 131, .ref 132, .int 0, .int 0, .int 0, .int 0, .ref 133, .ref 134, .ref 135, .ref 136, .int 1]) (pc' := 211) rfl rfl rfl (mm_sn rfl hb_114) rfl rfl rfl rfl rfl ?_
                        refine wp_s (i := .iload 6) (n := 2) (pc' := 213) (st' := [.int 0]) rfl rfl ?_
                        refine wp_r (i := .ireturn) (n := 1) (v := some (.int 0)) rfl rfl ?_
                        exact ⟨rfl, (pk_okS (pk_okS pk_ok0 hb_0 rfl) (mm_sn rfl hb_114) rfl)⟩
                      · skip
                        show mm_Wp _ _ _ 52 _ _ _ _
                        refine wp_s (i := .iload 5) (n := 2) (pc' := 54) (st' := [.int 1]) rfl rfl ?_
                        refine wp_s (i := .ifCond .ne 115) (n := 3) (pc' := 169) (st' := []) rfl rfl ?_
                        refine wp_s (i := .iconst 0) (n := 1) (pc' := 170) (st' := [.int 0]) rfl rfl ?_
                        refine wp_s (i := .istore 7) (n := 2) (pc' := 172) (ls' := [some (.ref 114), some (.int 0), some (.int w), some (.int u), some (.int z), some (.int 1), some (.int 0), some (.int 0)]) (st' := []) rfl rfl ?_
                        refine wp_s (i := .iload 7) (n := 2) (pc' := 174) (st' := [.int 0]) rfl rfl ?_
                        refine wp_s (i := .iload 6) (n := 2) (pc' := 176) (st' := [.int 0, .int 0]) rfl rfl ?_
                        refine wp_s (i := .if_icmp .ge 29) (n := 3) (pc' := 205) (st' := []) rfl rfl ?_
                        refine wp_s (i := .aload_n 0) (n := 1) (pc' := 206) (st' := [.ref 114]) rfl rfl ?_
                        refine wp_s (i := .iload 5) (n := 2) (pc' := 208) (st' := [.int 1, .ref 114]) rfl rfl ?_
                        refine wp_pf (idx := 287) (a := 114) (fs' := [.ref 115, .int 0, .int 0, .int 0, .int 0, .int 0, .int 0, .ref 116, .ref 117, .ref 118, .ref 119, .ref 120, .ref 121, .ref 122, .ref 123, .ref 124, .ref 125, .int 0, .int 0, .int 0, .int 0, .ref 126, .int 0, .int 0, .int 0, .int 0, .int 0, .int 0, .int 0, .int 0, .ref 127, .ref 128, .ref 129, .ref 130, .int 0, .ref 131, .ref 132, .int 0, .int 0, .int 0, .int 0, .ref 133, .ref 134, .ref 135, .ref 136, .int 1]) (pc' := 211) rfl rfl rfl (mm_sn rfl hb_114) rfl rfl rfl rfl rfl ?_
                        refine wp_s (i := .iload 6) (n := 2) (pc' := 213) (st' := [.int 0]) rfl rfl ?_
                        refine wp_r (i := .ireturn) (n := 1) (v := some (.int 0)) rfl rfl ?_
                        exact ⟨rfl, (pk_okS (pk_okS pk_ok0 hb_0 rfl) (mm_sn rfl hb_114) rfl)⟩
          · skip
            show mm_Wp _ _ _ 49 _ _ _ _
            refine wp_s (i := .iload 7) (n := 2) (pc' := 51) (st' := [.int 0]) rfl rfl ?_
            refine wp_s (i := .ifCond .ne 48) (n := 3) (pc' := 54) (st' := []) rfl rfl ?_
            refine wp_s (i := .aload 5) (n := 2) (pc' := 56) (st' := [.ref 106]) rfl rfl ?_
            refine wp_s (i := .iload_n 2) (n := 1) (pc' := 57) (st' := [.int w, .ref 106]) rfl rfl ?_
            refine wp_s (i := .iload_n 3) (n := 1) (pc' := 58) (st' := [.int u, .int w, .ref 106]) rfl rfl ?_
            refine wp_s (i := .iload 6) (n := 2) (pc' := 60) (st' := [.int 0, .int u, .int w, .ref 106]) rfl rfl ?_
            refine wp_s (i := .iadd) (n := 1) (pc' := 61) (st' := [.int (u + 0), .int w, .ref 106]) rfl rfl ?_
            refine wp_c (i := .invokevirtual 313) (n := 3) (Dq := 11) (r' := mm_r60) (as := [.ref 106, .int w, .int (u + 0)]) (rest := []) (ls' := [some (.ref 106), some (.int w), some (.int (u + 0))]) rfl rfl rfl ?_
            refine wp_s (i := .aload_n 0) (n := 1) (pc' := 1) (st' := [.ref 106]) rfl rfl ?_
            refine wp_c (i := .invokevirtual 28) (n := 3) (Dq := 10) (r' := mm_r58) (as := [.ref 106]) (rest := []) (ls' := [some (.ref 106)]) rfl rfl rfl ?_
            refine wp_x 12 (v := some (.int 1)) (h' := hp_0) (mm_dec (by decide +kernel)) ?_
            show mm_Wp X 11 mm_r60 4 [some (.ref 106), some (.int w), some (.int (u + 0))] [.int 1] _ _
            refine wp_s (i := .ifCond .eq 5) (n := 3) (pc' := 7) (st' := []) rfl rfl ?_
            refine wp_s (i := .iconst 1) (n := 1) (pc' := 8) (st' := [.int 1]) rfl rfl ?_
            refine wp_r (i := .ireturn) (n := 1) (v := some (.int 1)) rfl rfl ?_
            show mm_Wp X 12 mm_r100 64 [some (.ref 0), some (.int 0), some (.int w), some (.int u), some (.int z), some (.ref 106), some (.int 0), some (.int 0), none] [.int 1] _ _
            refine wp_s (i := .istore 7) (n := 2) (pc' := 66) (ls' := [some (.ref 0), some (.int 0), some (.int w), some (.int u), some (.int z), some (.ref 106), some (.int 0), some (.int 1), none]) (st' := []) rfl rfl ?_
            refine wp_s (i := .iload 7) (n := 2) (pc' := 68) (st' := [.int 1]) rfl rfl ?_
            refine wp_s (i := .ifCond .ne (-26)) (n := 3) (pc' := 42) (st' := []) rfl rfl ?_
            refine wp_s (i := .iload 6) (n := 2) (pc' := 44) (st' := [.int 0]) rfl rfl ?_
            refine wp_s (i := .iload 4) (n := 2) (pc' := 46) (st' := [.int z, .int 0]) rfl rfl ?_
            refine wp_ic (t := 99) (st := []) rfl rfl (fun hc18 => ?_) (fun hc18 => ?_)
            · skip
              show mm_Wp _ _ _ 99 _ _ _ _
              refine wp_s (i := .iconst 0) (n := 1) (pc' := 100) (st' := [.int 0]) rfl rfl ?_
              refine wp_s (i := .istore 8) (n := 2) (pc' := 102) (ls' := [some (.ref 0), some (.int 0), some (.int w), some (.int u), some (.int z), some (.ref 106), some (.int 0), some (.int 1), some (.int 0)]) (st' := []) rfl rfl ?_
              refine wp_s (i := .iload 8) (n := 2) (pc' := 104) (st' := [.int 0]) rfl rfl ?_
              refine wp_s (i := .iload 6) (n := 2) (pc' := 106) (st' := [.int 0, .int 0]) rfl rfl ?_
              refine wp_s (i := .if_icmp .ge 35) (n := 3) (pc' := 141) (st' := []) rfl rfl ?_
              refine wp_s (i := .aload_n 0) (n := 1) (pc' := 142) (st' := [.ref 0]) rfl rfl ?_
              refine wp_s (i := .iload 7) (n := 2) (pc' := 144) (st' := [.int 1, .ref 0]) rfl rfl ?_
              refine wp_pf (idx := 323) (a := 0) (fs' := [.ref 1, .ref 2, .ref 25, .ref 36, .ref 46, .ref 54, .ref 65, .ref 66, .ref 67, .int 0, .int 1]) (pc' := 147) rfl rfl rfl hb_0 rfl rfl rfl rfl rfl ?_
              refine wp_s (i := .iload 6) (n := 2) (pc' := 149) (st' := [.int 0]) rfl rfl ?_
              refine wp_r (i := .ireturn) (n := 1) (v := some (.int 0)) rfl rfl ?_
              refine ⟨0, rfl, ⟨_, (mm_sn rfl hb_114)⟩, ?_⟩
              show mm_Wp X 12 mm_r189 0 [some (.ref 114), some (.int 0), some (.int w), some (.int u), some (.int z), none, none, none] [] _ _
              refine wp_s (i := .iload_n 1) (n := 1) (pc' := 1) (st' := [.int 0]) rfl rfl ?_
              refine wp_s (i := .i2l) (n := 1) (pc' := 2) (st' := [.long 0]) rfl rfl ?_
              refine wp_s (i := .lconst 0) (n := 1) (pc' := 3) (st' := [.long 0, .long 0]) rfl rfl ?_
              refine wp_s (i := .ldc2_w 285) (n := 3) (pc' := 6) (st' := [.long 3, .long 0, .long 0]) rfl rfl ?_
              refine wp_c (i := .invokestatic 81) (n := 3) (Dq := 11) (r' := mm_r120) (as := [.long 0, .long 0, .long 3]) (rest := []) (ls' := [some (.long 0), none, some (.long 0), none, some (.long 3), none]) rfl rfl rfl ?_
              refine wp_x 16 (v := some (.int 1)) (h' := hp_0.set 0 (.inr (9, [.ref 1, .ref 2, .ref 25, .ref 36, .ref 46, .ref 54, .ref 65, .ref 66, .ref 67, .int 0, .int 1]))) (mm_dec (by decide +kernel)) ?_
              show mm_Wp X 12 mm_r189 9 [some (.ref 114), some (.int 0), some (.int w), some (.int u), some (.int z), none, none, none] [.int 1] _ _
              refine wp_s (i := .ifCond .eq 28) (n := 3) (pc' := 12) (st' := []) rfl rfl ?_
              refine wp_s (i := .iload_n 2) (n := 1) (pc' := 13) (st' := [.int w]) rfl rfl ?_
              refine wp_s (i := .i2l) (n := 1) (pc' := 14) (st' := [.long ((w).toInt64)]) rfl rfl ?_
              refine wp_s (i := .lconst 0) (n := 1) (pc' := 15) (st' := [.long 0, .long ((w).toInt64)]) rfl rfl ?_
              refine wp_s (i := .ldc2_w 198) (n := 3) (pc' := 18) (st' := [.long 2, .long 0, .long ((w).toInt64)]) rfl rfl ?_
              refine wp_c (i := .invokestatic 81) (n := 3) (Dq := 11) (r' := mm_r120) (as := [.long ((w).toInt64), .long 0, .long 2]) (rest := []) (ls' := [some (.long ((w).toInt64)), none, some (.long 0), none, some (.long 2), none]) rfl rfl rfl ?_
              refine wp_s (i := .lload_n 0) (n := 1) (pc' := 1) (st' := [.long ((w).toInt64)]) rfl rfl ?_
              refine wp_s (i := .lload_n 2) (n := 1) (pc' := 2) (st' := [.long 0, .long ((w).toInt64)]) rfl rfl ?_
              refine wp_s (i := .lcmp) (n := 1) (pc' := 3) (st' := [.int (lg_cmp ((w).toInt64) 0)]) rfl rfl ?_
              refine wp_if (t := 17) (st := []) rfl rfl (fun hc19 => ?_) (fun hc19 => ?_)
              · skip
                have q19 : (w).toInt < 0 := by have := lc_t_lt hc19; simpa using this
                exfalso; omega
              · skip
                have q19 : (w).toInt ≥ 0 := by have := lc_f_lt hc19; simpa using this
                show mm_Wp _ _ _ 6 _ _ _ _
                refine wp_s (i := .lload_n 0) (n := 1) (pc' := 7) (st' := [.long ((w).toInt64)]) rfl rfl ?_
                refine wp_s (i := .lload 4) (n := 2) (pc' := 9) (st' := [.long 2, .long ((w).toInt64)]) rfl rfl ?_
                refine wp_s (i := .lcmp) (n := 1) (pc' := 10) (st' := [.int (lg_cmp ((w).toInt64) 2)]) rfl rfl ?_
                refine wp_if (t := 17) (st := []) rfl rfl (fun hc20 => ?_) (fun hc20 => ?_)
                · skip
                  have q20 : (w).toInt > 2 := by have := lc_t_gt hc20; simpa using this
                  exfalso; omega
                · skip
                  have q20 : (w).toInt ≤ 2 := by have := lc_f_gt hc20; simpa using this
                  show mm_Wp _ _ _ 13 _ _ _ _
                  refine wp_s (i := .iconst 1) (n := 1) (pc' := 14) (st' := [.int 1]) rfl rfl ?_
                  refine wp_s (i := .goto 4) (n := 3) (pc' := 18) (st' := [.int 1]) rfl rfl ?_
                  refine wp_r (i := .ireturn) (n := 1) (v := some (.int 1)) rfl rfl ?_
                  show mm_Wp X 12 mm_r189 21 [some (.ref 114), some (.int 0), some (.int w), some (.int u), some (.int z), none, none, none] [.int 1] _ _
                  refine wp_s (i := .ifCond .eq 16) (n := 3) (pc' := 24) (st' := []) rfl rfl ?_
                  refine wp_s (i := .iload 4) (n := 2) (pc' := 26) (st' := [.int z]) rfl rfl ?_
                  refine wp_s (i := .i2l) (n := 1) (pc' := 27) (st' := [.long ((z).toInt64)]) rfl rfl ?_
                  refine wp_s (i := .lconst 0) (n := 1) (pc' := 28) (st' := [.long 0, .long ((z).toInt64)]) rfl rfl ?_
                  refine wp_s (i := .ldc2_w 277) (n := 3) (pc' := 31) (st' := [.long 12, .long 0, .long ((z).toInt64)]) rfl rfl ?_
                  refine wp_c (i := .invokestatic 81) (n := 3) (Dq := 11) (r' := mm_r120) (as := [.long ((z).toInt64), .long 0, .long 12]) (rest := []) (ls' := [some (.long ((z).toInt64)), none, some (.long 0), none, some (.long 12), none]) rfl rfl rfl ?_
                  refine wp_s (i := .lload_n 0) (n := 1) (pc' := 1) (st' := [.long ((z).toInt64)]) rfl rfl ?_
                  refine wp_s (i := .lload_n 2) (n := 1) (pc' := 2) (st' := [.long 0, .long ((z).toInt64)]) rfl rfl ?_
                  refine wp_s (i := .lcmp) (n := 1) (pc' := 3) (st' := [.int (lg_cmp ((z).toInt64) 0)]) rfl rfl ?_
                  refine wp_if (t := 17) (st := []) rfl rfl (fun hc21 => ?_) (fun hc21 => ?_)
                  · skip
                    have q21 : (z).toInt < 0 := by have := lc_t_lt hc21; simpa using this
                    exfalso; omega
                  · skip
                    have q21 : (z).toInt ≥ 0 := by have := lc_f_lt hc21; simpa using this
                    show mm_Wp _ _ _ 6 _ _ _ _
                    refine wp_s (i := .lload_n 0) (n := 1) (pc' := 7) (st' := [.long ((z).toInt64)]) rfl rfl ?_
                    refine wp_s (i := .lload 4) (n := 2) (pc' := 9) (st' := [.long 12, .long ((z).toInt64)]) rfl rfl ?_
                    refine wp_s (i := .lcmp) (n := 1) (pc' := 10) (st' := [.int (lg_cmp ((z).toInt64) 12)]) rfl rfl ?_
                    refine wp_if (t := 17) (st := []) rfl rfl (fun hc22 => ?_) (fun hc22 => ?_)
                    · skip
                      have q22 : (z).toInt > 12 := by have := lc_t_gt hc22; simpa using this
                      exfalso; omega
                    · skip
                      have q22 : (z).toInt ≤ 12 := by have := lc_f_gt hc22; simpa using this
                      show mm_Wp _ _ _ 13 _ _ _ _
                      refine wp_s (i := .iconst 1) (n := 1) (pc' := 14) (st' := [.int 1]) rfl rfl ?_
                      refine wp_s (i := .goto 4) (n := 3) (pc' := 18) (st' := [.int 1]) rfl rfl ?_
                      refine wp_r (i := .ireturn) (n := 1) (v := some (.int 1)) rfl rfl ?_
                      show mm_Wp X 12 mm_r189 34 [some (.ref 114), some (.int 0), some (.int w), some (.int u), some (.int z), none, none, none] [.int 1] _ _
                      refine wp_s (i := .ifCond .ne 5) (n := 3) (pc' := 39) (st' := []) rfl rfl ?_
                      refine wp_s (i := .iconst 0) (n := 1) (pc' := 40) (st' := [.int 0]) rfl rfl ?_
                      refine wp_s (i := .istore 5) (n := 2) (pc' := 42) (ls' := [some (.ref 114), some (.int 0), some (.int w), some (.int u), some (.int z), some (.int 0), none, none]) (st' := []) rfl rfl ?_
                      refine wp_s (i := .iconst 0) (n := 1) (pc' := 43) (st' := [.int 0]) rfl rfl ?_
                      refine wp_s (i := .istore 6) (n := 2) (pc' := 45) (ls' := [some (.ref 114), some (.int 0), some (.int w), some (.int u), some (.int z), some (.int 0), some (.int 0), none]) (st' := []) rfl rfl ?_
                      refine wp_s (i := .iload 6) (n := 2) (pc' := 47) (st' := [.int 0]) rfl rfl ?_
                      refine wp_s (i := .iload 4) (n := 2) (pc' := 49) (st' := [.int z, .int 0]) rfl rfl ?_
                      refine wp_ic (t := 169) (st := []) rfl rfl (fun hc23 => ?_) (fun hc23 => ?_)
                      · skip
                        show mm_Wp _ _ _ 169 _ _ _ _
                        refine wp_s (i := .iconst 0) (n := 1) (pc' := 170) (st' := [.int 0]) rfl rfl ?_
                        refine wp_s (i := .istore 7) (n := 2) (pc' := 172) (ls' := [some (.ref 114), some (.int 0), some (.int w), some (.int u), some (.int z), some (.int 0), some (.int 0), some (.int 0)]) (st' := []) rfl rfl ?_
                        refine wp_s (i := .iload 7) (n := 2) (pc' := 174) (st' := [.int 0]) rfl rfl ?_
                        refine wp_s (i := .iload 6) (n := 2) (pc' := 176) (st' := [.int 0, .int 0]) rfl rfl ?_
                        refine wp_s (i := .if_icmp .ge 29) (n := 3) (pc' := 205) (st' := []) rfl rfl ?_
                        refine wp_s (i := .aload_n 0) (n := 1) (pc' := 206) (st' := [.ref 114]) rfl rfl ?_
                        refine wp_s (i := .iload 5) (n := 2) (pc' := 208) (st' := [.int 0, .ref 114]) rfl rfl ?_
                        refine wp_pf (idx := 287) (a := 114) (fs' := [.ref 115, .int 0, .int 0, .int 0, .int 0, .int 0, .int 0, .ref 116, .ref 117, .ref 118, .ref 119, .ref 120, .ref 121, .ref 122, .ref 123, .ref 124, .ref 125, .int 0, .int 0, .int 0, .int 0, .ref 126, .int 0, .int 0, .int 0, .int 0, .int 0, .int 0, .int 0, .int 0, .ref 127, .ref 128, .ref 129, .ref 130, .int 0, .ref 131, .ref 132, .int 0, .int 0, .int 0, .int 0, .ref 133, .ref 134, .ref 135, .ref 136, .int 0]) (pc' := 211) rfl rfl rfl (mm_sn rfl hb_114) rfl rfl rfl rfl rfl ?_
                        refine wp_s (i := .iload 6) (n := 2) (pc' := 213) (st' := [.int 0]) rfl rfl ?_
                        refine wp_r (i := .ireturn) (n := 1) (v := some (.int 0)) rfl rfl ?_
                        exact ⟨rfl, (pk_okS (pk_okS pk_ok0 hb_0 rfl) (mm_sn rfl hb_114) rfl)⟩
                      · skip
                        show mm_Wp _ _ _ 52 _ _ _ _
                        refine wp_s (i := .iload 5) (n := 2) (pc' := 54) (st' := [.int 0]) rfl rfl ?_
                        refine wp_s (i := .ifCond .ne 115) (n := 3) (pc' := 57) (st' := []) rfl rfl ?_
                        refine wp_s (i := .aload_n 0) (n := 1) (pc' := 58) (st' := [.ref 114]) rfl rfl ?_
                        refine wp_gf (idx := 68) (a := 114) (v := .ref 134) (pc' := 61) rfl rfl (mm_sn rfl hb_114) rfl rfl ?_
                        refine wp_s (i := .iload_n 1) (n := 1) (pc' := 62) (st' := [.int 0, .ref 134]) rfl rfl ?_
                        refine wp_ia (x := (-4)) (pc' := 63) rfl (mm_sn rfl hb_134) rfl rfl rfl ?_
                        refine wp_s (i := .bipush (-4)) (n := 2) (pc' := 65) (st' := [.int (-4), .int (-4)]) rfl rfl ?_
                        refine wp_s (i := .if_icmp .ne 7) (n := 3) (pc' := 68) (st' := []) rfl rfl ?_
                        refine wp_s (i := .iconst 1) (n := 1) (pc' := 69) (st' := [.int 1]) rfl rfl ?_
                        refine wp_s (i := .goto 44) (n := 3) (pc' := 113) (st' := [.int 1]) rfl rfl ?_
                        refine wp_s (i := .istore 5) (n := 2) (pc' := 115) (ls' := [some (.ref 114), some (.int 0), some (.int w), some (.int u), some (.int z), some (.int 1), some (.int 0), none]) (st' := []) rfl rfl ?_
                        refine wp_s (i := .iload 5) (n := 2) (pc' := 117) (st' := [.int 1]) rfl rfl ?_
                        refine wp_s (i := .ifCond .ne 34) (n := 3) (pc' := 151) (st' := []) rfl rfl ?_
                        refine wp_s (i := .iload 6) (n := 2) (pc' := 153) (st' := [.int 0]) rfl rfl ?_
                        refine wp_s (i := .iload 5) (n := 2) (pc' := 155) (st' := [.int 1, .int 0]) rfl rfl ?_
                        refine wp_s (i := .ifCond .ne 7) (n := 3) (pc' := 162) (st' := [.int 0]) rfl rfl ?_
                        refine wp_s (i := .iconst 0) (n := 1) (pc' := 163) (st' := [.int 0, .int 0]) rfl rfl ?_
                        refine wp_s (i := .iadd) (n := 1) (pc' := 164) (st' := [.int 0]) rfl rfl ?_
                        refine wp_s (i := .istore 6) (n := 2) (pc' := 166) (ls' := [some (.ref 114), some (.int 0), some (.int w), some (.int u), some (.int z), some (.int 1), some (.int 0), none]) (st' := []) rfl rfl ?_
                        refine wp_s (i := .goto (-121)) (n := 3) (pc' := 45) (st' := []) rfl rfl ?_
                        refine wp_s (i := .iload 6) (n := 2) (pc' := 47) (st' := [.int 0]) rfl rfl ?_
                        refine wp_s (i := .iload 4) (n := 2) (pc' := 49) (st' := [.int z, .int 0]) rfl rfl ?_
                        refine wp_ic (t := 169) (st := []) rfl rfl (fun hc24 => ?_) (fun hc24 => ?_)
                        · skip
                          show mm_Wp _ _ _ 169 _ _ _ _
                          refine wp_s (i := .iconst 0) (n := 1) (pc' := 170) (st' := [.int 0]) rfl rfl ?_
                          refine wp_s (i := .istore 7) (n := 2) (pc' := 172) (ls' := [some (.ref 114), some (.int 0), some (.int w), some (.int u), some (.int z), some (.int 1), some (.int 0), some (.int 0)]) (st' := []) rfl rfl ?_
                          refine wp_s (i := .iload 7) (n := 2) (pc' := 174) (st' := [.int 0]) rfl rfl ?_
                          refine wp_s (i := .iload 6) (n := 2) (pc' := 176) (st' := [.int 0, .int 0]) rfl rfl ?_
                          refine wp_s (i := .if_icmp .ge 29) (n := 3) (pc' := 205) (st' := []) rfl rfl ?_
                          refine wp_s (i := .aload_n 0) (n := 1) (pc' := 206) (st' := [.ref 114]) rfl rfl ?_
                          refine wp_s (i := .iload 5) (n := 2) (pc' := 208) (st' := [.int 1, .ref 114]) rfl rfl ?_
                          refine wp_pf (idx := 287) (a := 114) (fs' := [.ref 115, .int 0, .int 0, .int 0, .int 0, .int 0, .int 0, .ref 116, .ref 117, .ref 118, .ref 119, .ref 120, .ref 121, .ref 122, .ref 123, .ref 124, .ref 125, .int 0, .int 0, .int 0, .int 0, .ref 126, .int 0, .int 0, .int 0, .int 0, .int 0, .int 0, .int 0, .int 0, .ref 127, .ref 128, .ref 129, .ref 130, .int 0, .ref 131, .ref 132, .int 0, .int 0, .int 0, .int 0, .ref 133, .ref 134, .ref 135, .ref 136, .int 1]) (pc' := 211) rfl rfl rfl (mm_sn rfl hb_114) rfl rfl rfl rfl rfl ?_
                          refine wp_s (i := .iload 6) (n := 2) (pc' := 213) (st' := [.int 0]) rfl rfl ?_
                          refine wp_r (i := .ireturn) (n := 1) (v := some (.int 0)) rfl rfl ?_
                          exact ⟨rfl, (pk_okS (pk_okS pk_ok0 hb_0 rfl) (mm_sn rfl hb_114) rfl)⟩
                        · skip
                          show mm_Wp _ _ _ 52 _ _ _ _
                          refine wp_s (i := .iload 5) (n := 2) (pc' := 54) (st' := [.int 1]) rfl rfl ?_
                          refine wp_s (i := .ifCond .ne 115) (n := 3) (pc' := 169) (st' := []) rfl rfl ?_
                          refine wp_s (i := .iconst 0) (n := 1) (pc' := 170) (st' := [.int 0]) rfl rfl ?_
                          refine wp_s (i := .istore 7) (n := 2) (pc' := 172) (ls' := [some (.ref 114), some (.int 0), some (.int w), some (.int u), some (.int z), some (.int 1), some (.int 0), some (.int 0)]) (st' := []) rfl rfl ?_
                          refine wp_s (i := .iload 7) (n := 2) (pc' := 174) (st' := [.int 0]) rfl rfl ?_
                          refine wp_s (i := .iload 6) (n := 2) (pc' := 176) (st' := [.int 0, .int 0]) rfl rfl ?_
                          refine wp_s (i := .if_icmp .ge 29) (n := 3) (pc' := 205) (st' := []) rfl rfl ?_
                          refine wp_s (i := .aload_n 0) (n := 1) (pc' := 206) (st' := [.ref 114]) rfl rfl ?_
                          refine wp_s (i := .iload 5) (n := 2) (pc' := 208) (st' := [.int 1, .ref 114]) rfl rfl ?_
                          refine wp_pf (idx := 287) (a := 114) (fs' := [.ref 115, .int 0, .int 0, .int 0, .int 0, .int 0, .int 0, .ref 116, .ref 117, .ref 118, .ref 119, .ref 120, .ref 121, .ref 122, .ref 123, .ref 124, .ref 125, .int 0, .int 0, .int 0, .int 0, .ref 126, .int 0, .int 0, .int 0, .int 0, .int 0, .int 0, .int 0, .int 0, .ref 127, .ref 128, .ref 129, .ref 130, .int 0, .ref 131, .ref 132, .int 0, .int 0, .int 0, .int 0, .ref 133, .ref 134, .ref 135, .ref 136, .int 1]) (pc' := 211) rfl rfl rfl (mm_sn rfl hb_114) rfl rfl rfl rfl rfl ?_
                          refine wp_s (i := .iload 6) (n := 2) (pc' := 213) (st' := [.int 0]) rfl rfl ?_
                          refine wp_r (i := .ireturn) (n := 1) (v := some (.int 0)) rfl rfl ?_
                          exact ⟨rfl, (pk_okS (pk_okS pk_ok0 hb_0 rfl) (mm_sn rfl hb_114) rfl)⟩
            · skip
              show mm_Wp _ _ _ 49 _ _ _ _
              refine wp_s (i := .iload 7) (n := 2) (pc' := 51) (st' := [.int 1]) rfl rfl ?_
              refine wp_s (i := .ifCond .ne 48) (n := 3) (pc' := 99) (st' := []) rfl rfl ?_
              refine wp_s (i := .iconst 0) (n := 1) (pc' := 100) (st' := [.int 0]) rfl rfl ?_
              refine wp_s (i := .istore 8) (n := 2) (pc' := 102) (ls' := [some (.ref 0), some (.int 0), some (.int w), some (.int u), some (.int z), some (.ref 106), some (.int 0), some (.int 1), some (.int 0)]) (st' := []) rfl rfl ?_
              refine wp_s (i := .iload 8) (n := 2) (pc' := 104) (st' := [.int 0]) rfl rfl ?_
              refine wp_s (i := .iload 6) (n := 2) (pc' := 106) (st' := [.int 0, .int 0]) rfl rfl ?_
              refine wp_s (i := .if_icmp .ge 35) (n := 3) (pc' := 141) (st' := []) rfl rfl ?_
              refine wp_s (i := .aload_n 0) (n := 1) (pc' := 142) (st' := [.ref 0]) rfl rfl ?_
              refine wp_s (i := .iload 7) (n := 2) (pc' := 144) (st' := [.int 1, .ref 0]) rfl rfl ?_
              refine wp_pf (idx := 323) (a := 0) (fs' := [.ref 1, .ref 2, .ref 25, .ref 36, .ref 46, .ref 54, .ref 65, .ref 66, .ref 67, .int 0, .int 1]) (pc' := 147) rfl rfl rfl hb_0 rfl rfl rfl rfl rfl ?_
              refine wp_s (i := .iload 6) (n := 2) (pc' := 149) (st' := [.int 0]) rfl rfl ?_
              refine wp_r (i := .ireturn) (n := 1) (v := some (.int 0)) rfl rfl ?_
              refine ⟨0, rfl, ⟨_, (mm_sn rfl hb_114)⟩, ?_⟩
              show mm_Wp X 12 mm_r189 0 [some (.ref 114), some (.int 0), some (.int w), some (.int u), some (.int z), none, none, none] [] _ _
              refine wp_s (i := .iload_n 1) (n := 1) (pc' := 1) (st' := [.int 0]) rfl rfl ?_
              refine wp_s (i := .i2l) (n := 1) (pc' := 2) (st' := [.long 0]) rfl rfl ?_
              refine wp_s (i := .lconst 0) (n := 1) (pc' := 3) (st' := [.long 0, .long 0]) rfl rfl ?_
              refine wp_s (i := .ldc2_w 285) (n := 3) (pc' := 6) (st' := [.long 3, .long 0, .long 0]) rfl rfl ?_
              refine wp_c (i := .invokestatic 81) (n := 3) (Dq := 11) (r' := mm_r120) (as := [.long 0, .long 0, .long 3]) (rest := []) (ls' := [some (.long 0), none, some (.long 0), none, some (.long 3), none]) rfl rfl rfl ?_
              refine wp_x 16 (v := some (.int 1)) (h' := hp_0.set 0 (.inr (9, [.ref 1, .ref 2, .ref 25, .ref 36, .ref 46, .ref 54, .ref 65, .ref 66, .ref 67, .int 0, .int 1]))) (mm_dec (by decide +kernel)) ?_
              show mm_Wp X 12 mm_r189 9 [some (.ref 114), some (.int 0), some (.int w), some (.int u), some (.int z), none, none, none] [.int 1] _ _
              refine wp_s (i := .ifCond .eq 28) (n := 3) (pc' := 12) (st' := []) rfl rfl ?_
              refine wp_s (i := .iload_n 2) (n := 1) (pc' := 13) (st' := [.int w]) rfl rfl ?_
              refine wp_s (i := .i2l) (n := 1) (pc' := 14) (st' := [.long ((w).toInt64)]) rfl rfl ?_
              refine wp_s (i := .lconst 0) (n := 1) (pc' := 15) (st' := [.long 0, .long ((w).toInt64)]) rfl rfl ?_
              refine wp_s (i := .ldc2_w 198) (n := 3) (pc' := 18) (st' := [.long 2, .long 0, .long ((w).toInt64)]) rfl rfl ?_
              refine wp_c (i := .invokestatic 81) (n := 3) (Dq := 11) (r' := mm_r120) (as := [.long ((w).toInt64), .long 0, .long 2]) (rest := []) (ls' := [some (.long ((w).toInt64)), none, some (.long 0), none, some (.long 2), none]) rfl rfl rfl ?_
              refine wp_s (i := .lload_n 0) (n := 1) (pc' := 1) (st' := [.long ((w).toInt64)]) rfl rfl ?_
              refine wp_s (i := .lload_n 2) (n := 1) (pc' := 2) (st' := [.long 0, .long ((w).toInt64)]) rfl rfl ?_
              refine wp_s (i := .lcmp) (n := 1) (pc' := 3) (st' := [.int (lg_cmp ((w).toInt64) 0)]) rfl rfl ?_
              refine wp_if (t := 17) (st := []) rfl rfl (fun hc25 => ?_) (fun hc25 => ?_)
              · skip
                have q25 : (w).toInt < 0 := by have := lc_t_lt hc25; simpa using this
                exfalso; omega
              · skip
                have q25 : (w).toInt ≥ 0 := by have := lc_f_lt hc25; simpa using this
                show mm_Wp _ _ _ 6 _ _ _ _
                refine wp_s (i := .lload_n 0) (n := 1) (pc' := 7) (st' := [.long ((w).toInt64)]) rfl rfl ?_
                refine wp_s (i := .lload 4) (n := 2) (pc' := 9) (st' := [.long 2, .long ((w).toInt64)]) rfl rfl ?_
                refine wp_s (i := .lcmp) (n := 1) (pc' := 10) (st' := [.int (lg_cmp ((w).toInt64) 2)]) rfl rfl ?_
                refine wp_if (t := 17) (st := []) rfl rfl (fun hc26 => ?_) (fun hc26 => ?_)
                · skip
                  have q26 : (w).toInt > 2 := by have := lc_t_gt hc26; simpa using this
                  exfalso; omega
                · skip
                  have q26 : (w).toInt ≤ 2 := by have := lc_f_gt hc26; simpa using this
                  show mm_Wp _ _ _ 13 _ _ _ _
                  refine wp_s (i := .iconst 1) (n := 1) (pc' := 14) (st' := [.int 1]) rfl rfl ?_
                  refine wp_s (i := .goto 4) (n := 3) (pc' := 18) (st' := [.int 1]) rfl rfl ?_
                  refine wp_r (i := .ireturn) (n := 1) (v := some (.int 1)) rfl rfl ?_
                  show mm_Wp X 12 mm_r189 21 [some (.ref 114), some (.int 0), some (.int w), some (.int u), some (.int z), none, none, none] [.int 1] _ _
                  refine wp_s (i := .ifCond .eq 16) (n := 3) (pc' := 24) (st' := []) rfl rfl ?_
                  refine wp_s (i := .iload 4) (n := 2) (pc' := 26) (st' := [.int z]) rfl rfl ?_
                  refine wp_s (i := .i2l) (n := 1) (pc' := 27) (st' := [.long ((z).toInt64)]) rfl rfl ?_
                  refine wp_s (i := .lconst 0) (n := 1) (pc' := 28) (st' := [.long 0, .long ((z).toInt64)]) rfl rfl ?_
                  refine wp_s (i := .ldc2_w 277) (n := 3) (pc' := 31) (st' := [.long 12, .long 0, .long ((z).toInt64)]) rfl rfl ?_
                  refine wp_c (i := .invokestatic 81) (n := 3) (Dq := 11) (r' := mm_r120) (as := [.long ((z).toInt64), .long 0, .long 12]) (rest := []) (ls' := [some (.long ((z).toInt64)), none, some (.long 0), none, some (.long 12), none]) rfl rfl rfl ?_
                  refine wp_s (i := .lload_n 0) (n := 1) (pc' := 1) (st' := [.long ((z).toInt64)]) rfl rfl ?_
                  refine wp_s (i := .lload_n 2) (n := 1) (pc' := 2) (st' := [.long 0, .long ((z).toInt64)]) rfl rfl ?_
                  refine wp_s (i := .lcmp) (n := 1) (pc' := 3) (st' := [.int (lg_cmp ((z).toInt64) 0)]) rfl rfl ?_
                  refine wp_if (t := 17) (st := []) rfl rfl (fun hc27 => ?_) (fun hc27 => ?_)
                  · skip
                    have q27 : (z).toInt < 0 := by have := lc_t_lt hc27; simpa using this
                    exfalso; omega
                  · skip
                    have q27 : (z).toInt ≥ 0 := by have := lc_f_lt hc27; simpa using this
                    show mm_Wp _ _ _ 6 _ _ _ _
                    refine wp_s (i := .lload_n 0) (n := 1) (pc' := 7) (st' := [.long ((z).toInt64)]) rfl rfl ?_
                    refine wp_s (i := .lload 4) (n := 2) (pc' := 9) (st' := [.long 12, .long ((z).toInt64)]) rfl rfl ?_
                    refine wp_s (i := .lcmp) (n := 1) (pc' := 10) (st' := [.int (lg_cmp ((z).toInt64) 12)]) rfl rfl ?_
                    refine wp_if (t := 17) (st := []) rfl rfl (fun hc28 => ?_) (fun hc28 => ?_)
                    · skip
                      have q28 : (z).toInt > 12 := by have := lc_t_gt hc28; simpa using this
                      exfalso; omega
                    · skip
                      have q28 : (z).toInt ≤ 12 := by have := lc_f_gt hc28; simpa using this
                      show mm_Wp _ _ _ 13 _ _ _ _
                      refine wp_s (i := .iconst 1) (n := 1) (pc' := 14) (st' := [.int 1]) rfl rfl ?_
                      refine wp_s (i := .goto 4) (n := 3) (pc' := 18) (st' := [.int 1]) rfl rfl ?_
                      refine wp_r (i := .ireturn) (n := 1) (v := some (.int 1)) rfl rfl ?_
                      show mm_Wp X 12 mm_r189 34 [some (.ref 114), some (.int 0), some (.int w), some (.int u), some (.int z), none, none, none] [.int 1] _ _
                      refine wp_s (i := .ifCond .ne 5) (n := 3) (pc' := 39) (st' := []) rfl rfl ?_
                      refine wp_s (i := .iconst 0) (n := 1) (pc' := 40) (st' := [.int 0]) rfl rfl ?_
                      refine wp_s (i := .istore 5) (n := 2) (pc' := 42) (ls' := [some (.ref 114), some (.int 0), some (.int w), some (.int u), some (.int z), some (.int 0), none, none]) (st' := []) rfl rfl ?_
                      refine wp_s (i := .iconst 0) (n := 1) (pc' := 43) (st' := [.int 0]) rfl rfl ?_
                      refine wp_s (i := .istore 6) (n := 2) (pc' := 45) (ls' := [some (.ref 114), some (.int 0), some (.int w), some (.int u), some (.int z), some (.int 0), some (.int 0), none]) (st' := []) rfl rfl ?_
                      refine wp_s (i := .iload 6) (n := 2) (pc' := 47) (st' := [.int 0]) rfl rfl ?_
                      refine wp_s (i := .iload 4) (n := 2) (pc' := 49) (st' := [.int z, .int 0]) rfl rfl ?_
                      refine wp_ic (t := 169) (st := []) rfl rfl (fun hc29 => ?_) (fun hc29 => ?_)
                      · skip
                        show mm_Wp _ _ _ 169 _ _ _ _
                        refine wp_s (i := .iconst 0) (n := 1) (pc' := 170) (st' := [.int 0]) rfl rfl ?_
                        refine wp_s (i := .istore 7) (n := 2) (pc' := 172) (ls' := [some (.ref 114), some (.int 0), some (.int w), some (.int u), some (.int z), some (.int 0), some (.int 0), some (.int 0)]) (st' := []) rfl rfl ?_
                        refine wp_s (i := .iload 7) (n := 2) (pc' := 174) (st' := [.int 0]) rfl rfl ?_
                        refine wp_s (i := .iload 6) (n := 2) (pc' := 176) (st' := [.int 0, .int 0]) rfl rfl ?_
                        refine wp_s (i := .if_icmp .ge 29) (n := 3) (pc' := 205) (st' := []) rfl rfl ?_
                        refine wp_s (i := .aload_n 0) (n := 1) (pc' := 206) (st' := [.ref 114]) rfl rfl ?_
                        refine wp_s (i := .iload 5) (n := 2) (pc' := 208) (st' := [.int 0, .ref 114]) rfl rfl ?_
                        refine wp_pf (idx := 287) (a := 114) (fs' := [.ref 115, .int 0, .int 0, .int 0, .int 0, .int 0, .int 0, .ref 116, .ref 117, .ref 118, .ref 119, .ref 120, .ref 121, .ref 122, .ref 123, .ref 124, .ref 125, .int 0, .int 0, .int 0, .int 0, .ref 126, .int 0, .int 0, .int 0, .int 0, .int 0, .int 0, .int 0, .int 0, .ref 127, .ref 128, .ref 129, .ref 130, .int 0, .ref 131, .ref 132, .int 0, .int 0, .int 0, .int 0, .ref 133, .ref 134, .ref 135, .ref 136, .int 0]) (pc' := 211) rfl rfl rfl (mm_sn rfl hb_114) rfl rfl rfl rfl rfl ?_
                        refine wp_s (i := .iload 6) (n := 2) (pc' := 213) (st' := [.int 0]) rfl rfl ?_
                        refine wp_r (i := .ireturn) (n := 1) (v := some (.int 0)) rfl rfl ?_
                        exact ⟨rfl, (pk_okS (pk_okS pk_ok0 hb_0 rfl) (mm_sn rfl hb_114) rfl)⟩
                      · skip
                        show mm_Wp _ _ _ 52 _ _ _ _
                        refine wp_s (i := .iload 5) (n := 2) (pc' := 54) (st' := [.int 0]) rfl rfl ?_
                        refine wp_s (i := .ifCond .ne 115) (n := 3) (pc' := 57) (st' := []) rfl rfl ?_
                        refine wp_s (i := .aload_n 0) (n := 1) (pc' := 58) (st' := [.ref 114]) rfl rfl ?_
                        refine wp_gf (idx := 68) (a := 114) (v := .ref 134) (pc' := 61) rfl rfl (mm_sn rfl hb_114) rfl rfl ?_
                        refine wp_s (i := .iload_n 1) (n := 1) (pc' := 62) (st' := [.int 0, .ref 134]) rfl rfl ?_
                        refine wp_ia (x := (-4)) (pc' := 63) rfl (mm_sn rfl hb_134) rfl rfl rfl ?_
                        refine wp_s (i := .bipush (-4)) (n := 2) (pc' := 65) (st' := [.int (-4), .int (-4)]) rfl rfl ?_
                        refine wp_s (i := .if_icmp .ne 7) (n := 3) (pc' := 68) (st' := []) rfl rfl ?_
                        refine wp_s (i := .iconst 1) (n := 1) (pc' := 69) (st' := [.int 1]) rfl rfl ?_
                        refine wp_s (i := .goto 44) (n := 3) (pc' := 113) (st' := [.int 1]) rfl rfl ?_
                        refine wp_s (i := .istore 5) (n := 2) (pc' := 115) (ls' := [some (.ref 114), some (.int 0), some (.int w), some (.int u), some (.int z), some (.int 1), some (.int 0), none]) (st' := []) rfl rfl ?_
                        refine wp_s (i := .iload 5) (n := 2) (pc' := 117) (st' := [.int 1]) rfl rfl ?_
                        refine wp_s (i := .ifCond .ne 34) (n := 3) (pc' := 151) (st' := []) rfl rfl ?_
                        refine wp_s (i := .iload 6) (n := 2) (pc' := 153) (st' := [.int 0]) rfl rfl ?_
                        refine wp_s (i := .iload 5) (n := 2) (pc' := 155) (st' := [.int 1, .int 0]) rfl rfl ?_
                        refine wp_s (i := .ifCond .ne 7) (n := 3) (pc' := 162) (st' := [.int 0]) rfl rfl ?_
                        refine wp_s (i := .iconst 0) (n := 1) (pc' := 163) (st' := [.int 0, .int 0]) rfl rfl ?_
                        refine wp_s (i := .iadd) (n := 1) (pc' := 164) (st' := [.int 0]) rfl rfl ?_
                        refine wp_s (i := .istore 6) (n := 2) (pc' := 166) (ls' := [some (.ref 114), some (.int 0), some (.int w), some (.int u), some (.int z), some (.int 1), some (.int 0), none]) (st' := []) rfl rfl ?_
                        refine wp_s (i := .goto (-121)) (n := 3) (pc' := 45) (st' := []) rfl rfl ?_
                        refine wp_s (i := .iload 6) (n := 2) (pc' := 47) (st' := [.int 0]) rfl rfl ?_
                        refine wp_s (i := .iload 4) (n := 2) (pc' := 49) (st' := [.int z, .int 0]) rfl rfl ?_
                        refine wp_ic (t := 169) (st := []) rfl rfl (fun hc30 => ?_) (fun hc30 => ?_)
                        · skip
                          show mm_Wp _ _ _ 169 _ _ _ _
                          refine wp_s (i := .iconst 0) (n := 1) (pc' := 170) (st' := [.int 0]) rfl rfl ?_
                          refine wp_s (i := .istore 7) (n := 2) (pc' := 172) (ls' := [some (.ref 114), some (.int 0), some (.int w), some (.int u), some (.int z), some (.int 1), some (.int 0), some (.int 0)]) (st' := []) rfl rfl ?_
                          refine wp_s (i := .iload 7) (n := 2) (pc' := 174) (st' := [.int 0]) rfl rfl ?_
                          refine wp_s (i := .iload 6) (n := 2) (pc' := 176) (st' := [.int 0, .int 0]) rfl rfl ?_
                          refine wp_s (i := .if_icmp .ge 29) (n := 3) (pc' := 205) (st' := []) rfl rfl ?_
                          refine wp_s (i := .aload_n 0) (n := 1) (pc' := 206) (st' := [.ref 114]) rfl rfl ?_
                          refine wp_s (i := .iload 5) (n := 2) (pc' := 208) (st' := [.int 1, .ref 114]) rfl rfl ?_
                          refine wp_pf (idx := 287) (a := 114) (fs' := [.ref 115, .int 0, .int 0, .int 0, .int 0, .int 0, .int 0, .ref 116, .ref 117, .ref 118, .ref 119, .ref 120, .ref 121, .ref 122, .ref 123, .ref 124, .ref 125, .int 0, .int 0, .int 0, .int 0, .ref 126, .int 0, .int 0, .int 0, .int 0, .int 0, .int 0, .int 0, .int 0, .ref 127, .ref 128, .ref 129, .ref 130, .int 0, .ref 131, .ref 132, .int 0, .int 0, .int 0, .int 0, .ref 133, .ref 134, .ref 135, .ref 136, .int 1]) (pc' := 211) rfl rfl rfl (mm_sn rfl hb_114) rfl rfl rfl rfl rfl ?_
                          refine wp_s (i := .iload 6) (n := 2) (pc' := 213) (st' := [.int 0]) rfl rfl ?_
                          refine wp_r (i := .ireturn) (n := 1) (v := some (.int 0)) rfl rfl ?_
                          exact ⟨rfl, (pk_okS (pk_okS pk_ok0 hb_0 rfl) (mm_sn rfl hb_114) rfl)⟩
                        · skip
                          show mm_Wp _ _ _ 52 _ _ _ _
                          refine wp_s (i := .iload 5) (n := 2) (pc' := 54) (st' := [.int 1]) rfl rfl ?_
                          refine wp_s (i := .ifCond .ne 115) (n := 3) (pc' := 169) (st' := []) rfl rfl ?_
                          refine wp_s (i := .iconst 0) (n := 1) (pc' := 170) (st' := [.int 0]) rfl rfl ?_
                          refine wp_s (i := .istore 7) (n := 2) (pc' := 172) (ls' := [some (.ref 114), some (.int 0), some (.int w), some (.int u), some (.int z), some (.int 1), some (.int 0), some (.int 0)]) (st' := []) rfl rfl ?_
                          refine wp_s (i := .iload 7) (n := 2) (pc' := 174) (st' := [.int 0]) rfl rfl ?_
                          refine wp_s (i := .iload 6) (n := 2) (pc' := 176) (st' := [.int 0, .int 0]) rfl rfl ?_
                          refine wp_s (i := .if_icmp .ge 29) (n := 3) (pc' := 205) (st' := []) rfl rfl ?_
                          refine wp_s (i := .aload_n 0) (n := 1) (pc' := 206) (st' := [.ref 114]) rfl rfl ?_
                          refine wp_s (i := .iload 5) (n := 2) (pc' := 208) (st' := [.int 1, .ref 114]) rfl rfl ?_
                          refine wp_pf (idx := 287) (a := 114) (fs' := [.ref 115, .int 0, .int 0, .int 0, .int 0, .int 0, .int 0, .ref 116, .ref 117, .ref 118, .ref 119, .ref 120, .ref 121, .ref 122, .ref 123, .ref 124, .ref 125, .int 0, .int 0, .int 0, .int 0, .ref 126, .int 0, .int 0, .int 0, .int 0, .int 0, .int 0, .int 0, .int 0, .ref 127, .ref 128, .ref 129, .ref 130, .int 0, .ref 131, .ref 132, .int 0, .int 0, .int 0, .int 0, .ref 133, .ref 134, .ref 135, .ref 136, .int 1]) (pc' := 211) rfl rfl rfl (mm_sn rfl hb_114) rfl rfl rfl rfl rfl ?_
                          refine wp_s (i := .iload 6) (n := 2) (pc' := 213) (st' := [.int 0]) rfl rfl ?_
                          refine wp_r (i := .ireturn) (n := 1) (v := some (.int 0)) rfl rfl ?_
                          exact ⟨rfl, (pk_okS (pk_okS pk_ok0 hb_0 rfl) (mm_sn rfl hb_114) rfl)⟩
        · skip
          have q10 : (z).toInt > 12 := by have := mc_f_le hc10; simpa using this
          show mm_Wp _ _ _ 26 _ _ _ _
          refine wp_s (i := .iconst (-1)) (n := 1) (pc' := 27) (st' := [.int (-1)]) rfl rfl ?_
          refine wp_r (i := .ireturn) (n := 1) (v := some (.int (-1))) rfl rfl ?_
          refine ⟨(-1), rfl, ⟨_, hb_114⟩, ?_⟩
          show mm_Wp X 12 mm_r189 0 [some (.ref 114), some (.int 0), some (.int w), some (.int u), some (.int z), none, none, none] [] _ _
          refine wp_s (i := .iload_n 1) (n := 1) (pc' := 1) (st' := [.int 0]) rfl rfl ?_
          refine wp_s (i := .i2l) (n := 1) (pc' := 2) (st' := [.long 0]) rfl rfl ?_
          refine wp_s (i := .lconst 0) (n := 1) (pc' := 3) (st' := [.long 0, .long 0]) rfl rfl ?_
          refine wp_s (i := .ldc2_w 285) (n := 3) (pc' := 6) (st' := [.long 3, .long 0, .long 0]) rfl rfl ?_
          refine wp_c (i := .invokestatic 81) (n := 3) (Dq := 11) (r' := mm_r120) (as := [.long 0, .long 0, .long 3]) (rest := []) (ls' := [some (.long 0), none, some (.long 0), none, some (.long 3), none]) rfl rfl rfl ?_
          refine wp_x 16 (v := some (.int 1)) (h' := hp_0) (mm_dec (by decide +kernel)) ?_
          show mm_Wp X 12 mm_r189 9 [some (.ref 114), some (.int 0), some (.int w), some (.int u), some (.int z), none, none, none] [.int 1] _ _
          refine wp_s (i := .ifCond .eq 28) (n := 3) (pc' := 12) (st' := []) rfl rfl ?_
          refine wp_s (i := .iload_n 2) (n := 1) (pc' := 13) (st' := [.int w]) rfl rfl ?_
          refine wp_s (i := .i2l) (n := 1) (pc' := 14) (st' := [.long ((w).toInt64)]) rfl rfl ?_
          refine wp_s (i := .lconst 0) (n := 1) (pc' := 15) (st' := [.long 0, .long ((w).toInt64)]) rfl rfl ?_
          refine wp_s (i := .ldc2_w 198) (n := 3) (pc' := 18) (st' := [.long 2, .long 0, .long ((w).toInt64)]) rfl rfl ?_
          refine wp_c (i := .invokestatic 81) (n := 3) (Dq := 11) (r' := mm_r120) (as := [.long ((w).toInt64), .long 0, .long 2]) (rest := []) (ls' := [some (.long ((w).toInt64)), none, some (.long 0), none, some (.long 2), none]) rfl rfl rfl ?_
          refine wp_s (i := .lload_n 0) (n := 1) (pc' := 1) (st' := [.long ((w).toInt64)]) rfl rfl ?_
          refine wp_s (i := .lload_n 2) (n := 1) (pc' := 2) (st' := [.long 0, .long ((w).toInt64)]) rfl rfl ?_
          refine wp_s (i := .lcmp) (n := 1) (pc' := 3) (st' := [.int (lg_cmp ((w).toInt64) 0)]) rfl rfl ?_
          refine wp_if (t := 17) (st := []) rfl rfl (fun hc31 => ?_) (fun hc31 => ?_)
          · skip
            have q31 : (w).toInt < 0 := by have := lc_t_lt hc31; simpa using this
            exfalso; omega
          · skip
            have q31 : (w).toInt ≥ 0 := by have := lc_f_lt hc31; simpa using this
            show mm_Wp _ _ _ 6 _ _ _ _
            refine wp_s (i := .lload_n 0) (n := 1) (pc' := 7) (st' := [.long ((w).toInt64)]) rfl rfl ?_
            refine wp_s (i := .lload 4) (n := 2) (pc' := 9) (st' := [.long 2, .long ((w).toInt64)]) rfl rfl ?_
            refine wp_s (i := .lcmp) (n := 1) (pc' := 10) (st' := [.int (lg_cmp ((w).toInt64) 2)]) rfl rfl ?_
            refine wp_if (t := 17) (st := []) rfl rfl (fun hc32 => ?_) (fun hc32 => ?_)
            · skip
              have q32 : (w).toInt > 2 := by have := lc_t_gt hc32; simpa using this
              exfalso; omega
            · skip
              have q32 : (w).toInt ≤ 2 := by have := lc_f_gt hc32; simpa using this
              show mm_Wp _ _ _ 13 _ _ _ _
              refine wp_s (i := .iconst 1) (n := 1) (pc' := 14) (st' := [.int 1]) rfl rfl ?_
              refine wp_s (i := .goto 4) (n := 3) (pc' := 18) (st' := [.int 1]) rfl rfl ?_
              refine wp_r (i := .ireturn) (n := 1) (v := some (.int 1)) rfl rfl ?_
              show mm_Wp X 12 mm_r189 21 [some (.ref 114), some (.int 0), some (.int w), some (.int u), some (.int z), none, none, none] [.int 1] _ _
              refine wp_s (i := .ifCond .eq 16) (n := 3) (pc' := 24) (st' := []) rfl rfl ?_
              refine wp_s (i := .iload 4) (n := 2) (pc' := 26) (st' := [.int z]) rfl rfl ?_
              refine wp_s (i := .i2l) (n := 1) (pc' := 27) (st' := [.long ((z).toInt64)]) rfl rfl ?_
              refine wp_s (i := .lconst 0) (n := 1) (pc' := 28) (st' := [.long 0, .long ((z).toInt64)]) rfl rfl ?_
              refine wp_s (i := .ldc2_w 277) (n := 3) (pc' := 31) (st' := [.long 12, .long 0, .long ((z).toInt64)]) rfl rfl ?_
              refine wp_c (i := .invokestatic 81) (n := 3) (Dq := 11) (r' := mm_r120) (as := [.long ((z).toInt64), .long 0, .long 12]) (rest := []) (ls' := [some (.long ((z).toInt64)), none, some (.long 0), none, some (.long 12), none]) rfl rfl rfl ?_
              refine wp_s (i := .lload_n 0) (n := 1) (pc' := 1) (st' := [.long ((z).toInt64)]) rfl rfl ?_
              refine wp_s (i := .lload_n 2) (n := 1) (pc' := 2) (st' := [.long 0, .long ((z).toInt64)]) rfl rfl ?_
              refine wp_s (i := .lcmp) (n := 1) (pc' := 3) (st' := [.int (lg_cmp ((z).toInt64) 0)]) rfl rfl ?_
              refine wp_if (t := 17) (st := []) rfl rfl (fun hc33 => ?_) (fun hc33 => ?_)
              · skip
                have q33 : (z).toInt < 0 := by have := lc_t_lt hc33; simpa using this
                exfalso; omega
              · skip
                have q33 : (z).toInt ≥ 0 := by have := lc_f_lt hc33; simpa using this
                show mm_Wp _ _ _ 6 _ _ _ _
                refine wp_s (i := .lload_n 0) (n := 1) (pc' := 7) (st' := [.long ((z).toInt64)]) rfl rfl ?_
                refine wp_s (i := .lload 4) (n := 2) (pc' := 9) (st' := [.long 12, .long ((z).toInt64)]) rfl rfl ?_
                refine wp_s (i := .lcmp) (n := 1) (pc' := 10) (st' := [.int (lg_cmp ((z).toInt64) 12)]) rfl rfl ?_
                refine wp_if (t := 17) (st := []) rfl rfl (fun hc34 => ?_) (fun hc34 => ?_)
                · skip
                  have q34 : (z).toInt > 12 := by have := lc_t_gt hc34; simpa using this
                  show mm_Wp _ _ _ 17 _ _ _ _
                  refine wp_s (i := .iconst 0) (n := 1) (pc' := 18) (st' := [.int 0]) rfl rfl ?_
                  refine wp_r (i := .ireturn) (n := 1) (v := some (.int 0)) rfl rfl ?_
                  show mm_Wp X 12 mm_r189 34 [some (.ref 114), some (.int 0), some (.int w), some (.int u), some (.int z), none, none, none] [.int 0] _ _
                  refine wp_s (i := .ifCond .ne 5) (n := 3) (pc' := 37) (st' := []) rfl rfl ?_
                  refine wp_s (i := .iconst (-1)) (n := 1) (pc' := 38) (st' := [.int (-1)]) rfl rfl ?_
                  refine wp_r (i := .ireturn) (n := 1) (v := some (.int (-1))) rfl rfl ?_
                  exact ⟨rfl, pk_ok0⟩
                · skip
                  have q34 : (z).toInt ≤ 12 := by have := lc_f_gt hc34; simpa using this
                  exfalso; omega
set_option maxRecDepth 20000 in
set_option maxHeartbeats 4000000 in
theorem pk_35_1 (X : Option (List Int32)) (w u z : Int32) : mm_Wp X 12 mm_r100 0 [some (.ref 0), some (.int 1), some (.int w), some (.int u), some (.int z), none, none, none, none] [] hp_0 (fun v1 h1 => ∃ x : Int32, v1 = some (.int x) ∧ (∃ fs, h1[114]? = some (.inr (10, fs))) ∧ mm_Wp X 12 mm_r189 0 [some (.ref 114), some (.int 1), some (.int w), some (.int u), some (.int z), none, none, none] [] h1 (fun v2 h2 => v2 = some (.int x) ∧ pk_ok h2)) := by
  refine wp_s (i := .iload_n 1) (n := 1) (pc' := 1) (st' := [.int 1]) rfl rfl ?_
  refine wp_c (i := .invokestatic 301) (n := 3) (Dq := 11) (r' := mm_r107) (as := [.int 1]) (rest := []) (ls' := [some (.int 1)]) rfl rfl rfl ?_
  refine wp_x 13 (v := some (.int 1)) (h' := hp_0) (mm_dec (by decide +kernel)) ?_
  show mm_Wp X 12 mm_r100 4 [some (.ref 0), some (.int 1), some (.int w), some (.int u), some (.int z), none, none, none, none] [.int 1] _ _
  refine wp_s (i := .ifCond .eq 22) (n := 3) (pc' := 7) (st' := []) rfl rfl ?_
  refine wp_s (i := .iload_n 2) (n := 1) (pc' := 8) (st' := [.int w]) rfl rfl ?_
  refine wp_c (i := .invokestatic 304) (n := 3) (Dq := 11) (r' := mm_r108) (as := [.int w]) (rest := []) (ls' := [some (.int w)]) rfl rfl rfl ?_
  refine wp_s (i := .iload_n 0) (n := 1) (pc' := 1) (st' := [.int w]) rfl rfl ?_
  refine wp_if (t := 13) (st := []) rfl rfl (fun hc1 => ?_) (fun hc1 => ?_)
  · skip
    have q1 : (w).toInt < 0 := by have := mc_t_lt hc1; simpa using this
    show mm_Wp _ _ _ 13 _ _ _ _
    refine wp_s (i := .iconst 0) (n := 1) (pc' := 14) (st' := [.int 0]) rfl rfl ?_
    refine wp_r (i := .ireturn) (n := 1) (v := some (.int 0)) rfl rfl ?_
    show mm_Wp X 12 mm_r100 11 [some (.ref 0), some (.int 1), some (.int w), some (.int u), some (.int z), none, none, none, none] [.int 0] _ _
    refine wp_s (i := .ifCond .eq 15) (n := 3) (pc' := 26) (st' := []) rfl rfl ?_
    refine wp_s (i := .iconst (-1)) (n := 1) (pc' := 27) (st' := [.int (-1)]) rfl rfl ?_
    refine wp_r (i := .ireturn) (n := 1) (v := some (.int (-1))) rfl rfl ?_
    refine ⟨(-1), rfl, ⟨_, hb_114⟩, ?_⟩
    show mm_Wp X 12 mm_r189 0 [some (.ref 114), some (.int 1), some (.int w), some (.int u), some (.int z), none, none, none] [] _ _
    refine wp_s (i := .iload_n 1) (n := 1) (pc' := 1) (st' := [.int 1]) rfl rfl ?_
    refine wp_s (i := .i2l) (n := 1) (pc' := 2) (st' := [.long 1]) rfl rfl ?_
    refine wp_s (i := .lconst 0) (n := 1) (pc' := 3) (st' := [.long 0, .long 1]) rfl rfl ?_
    refine wp_s (i := .ldc2_w 285) (n := 3) (pc' := 6) (st' := [.long 3, .long 0, .long 1]) rfl rfl ?_
    refine wp_c (i := .invokestatic 81) (n := 3) (Dq := 11) (r' := mm_r120) (as := [.long 1, .long 0, .long 3]) (rest := []) (ls' := [some (.long 1), none, some (.long 0), none, some (.long 3), none]) rfl rfl rfl ?_
    refine wp_x 16 (v := some (.int 1)) (h' := hp_0) (mm_dec (by decide +kernel)) ?_
    show mm_Wp X 12 mm_r189 9 [some (.ref 114), some (.int 1), some (.int w), some (.int u), some (.int z), none, none, none] [.int 1] _ _
    refine wp_s (i := .ifCond .eq 28) (n := 3) (pc' := 12) (st' := []) rfl rfl ?_
    refine wp_s (i := .iload_n 2) (n := 1) (pc' := 13) (st' := [.int w]) rfl rfl ?_
    refine wp_s (i := .i2l) (n := 1) (pc' := 14) (st' := [.long ((w).toInt64)]) rfl rfl ?_
    refine wp_s (i := .lconst 0) (n := 1) (pc' := 15) (st' := [.long 0, .long ((w).toInt64)]) rfl rfl ?_
    refine wp_s (i := .ldc2_w 198) (n := 3) (pc' := 18) (st' := [.long 2, .long 0, .long ((w).toInt64)]) rfl rfl ?_
    refine wp_c (i := .invokestatic 81) (n := 3) (Dq := 11) (r' := mm_r120) (as := [.long ((w).toInt64), .long 0, .long 2]) (rest := []) (ls' := [some (.long ((w).toInt64)), none, some (.long 0), none, some (.long 2), none]) rfl rfl rfl ?_
    refine wp_s (i := .lload_n 0) (n := 1) (pc' := 1) (st' := [.long ((w).toInt64)]) rfl rfl ?_
    refine wp_s (i := .lload_n 2) (n := 1) (pc' := 2) (st' := [.long 0, .long ((w).toInt64)]) rfl rfl ?_
    refine wp_s (i := .lcmp) (n := 1) (pc' := 3) (st' := [.int (lg_cmp ((w).toInt64) 0)]) rfl rfl ?_
    refine wp_if (t := 17) (st := []) rfl rfl (fun hc2 => ?_) (fun hc2 => ?_)
    · skip
      have q2 : (w).toInt < 0 := by have := lc_t_lt hc2; simpa using this
      show mm_Wp _ _ _ 17 _ _ _ _
      refine wp_s (i := .iconst 0) (n := 1) (pc' := 18) (st' := [.int 0]) rfl rfl ?_
      refine wp_r (i := .ireturn) (n := 1) (v := some (.int 0)) rfl rfl ?_
      show mm_Wp X 12 mm_r189 21 [some (.ref 114), some (.int 1), some (.int w), some (.int u), some (.int z), none, none, none] [.int 0] _ _
      refine wp_s (i := .ifCond .eq 16) (n := 3) (pc' := 37) (st' := []) rfl rfl ?_
      refine wp_s (i := .iconst (-1)) (n := 1) (pc' := 38) (st' := [.int (-1)]) rfl rfl ?_
      refine wp_r (i := .ireturn) (n := 1) (v := some (.int (-1))) rfl rfl ?_
      exact ⟨rfl, pk_ok0⟩
    · skip
      have q2 : (w).toInt ≥ 0 := by have := lc_f_lt hc2; simpa using this
      exfalso; omega
  · skip
    have q1 : (w).toInt ≥ 0 := by have := mc_f_lt hc1; simpa using this
    show mm_Wp _ _ _ 4 _ _ _ _
    refine wp_s (i := .iload_n 0) (n := 1) (pc' := 5) (st' := [.int w]) rfl rfl ?_
    refine wp_s (i := .iconst 3) (n := 1) (pc' := 6) (st' := [.int 3, .int w]) rfl rfl ?_
    refine wp_ic (t := 13) (st := []) rfl rfl (fun hc3 => ?_) (fun hc3 => ?_)
    · skip
      have q3 : (w).toInt ≥ 3 := by have := mc_t_ge hc3; simpa using this
      show mm_Wp _ _ _ 13 _ _ _ _
      refine wp_s (i := .iconst 0) (n := 1) (pc' := 14) (st' := [.int 0]) rfl rfl ?_
      refine wp_r (i := .ireturn) (n := 1) (v := some (.int 0)) rfl rfl ?_
      show mm_Wp X 12 mm_r100 11 [some (.ref 0), some (.int 1), some (.int w), some (.int u), some (.int z), none, none, none, none] [.int 0] _ _
      refine wp_s (i := .ifCond .eq 15) (n := 3) (pc' := 26) (st' := []) rfl rfl ?_
      refine wp_s (i := .iconst (-1)) (n := 1) (pc' := 27) (st' := [.int (-1)]) rfl rfl ?_
      refine wp_r (i := .ireturn) (n := 1) (v := some (.int (-1))) rfl rfl ?_
      refine ⟨(-1), rfl, ⟨_, hb_114⟩, ?_⟩
      show mm_Wp X 12 mm_r189 0 [some (.ref 114), some (.int 1), some (.int w), some (.int u), some (.int z), none, none, none] [] _ _
      refine wp_s (i := .iload_n 1) (n := 1) (pc' := 1) (st' := [.int 1]) rfl rfl ?_
      refine wp_s (i := .i2l) (n := 1) (pc' := 2) (st' := [.long 1]) rfl rfl ?_
      refine wp_s (i := .lconst 0) (n := 1) (pc' := 3) (st' := [.long 0, .long 1]) rfl rfl ?_
      refine wp_s (i := .ldc2_w 285) (n := 3) (pc' := 6) (st' := [.long 3, .long 0, .long 1]) rfl rfl ?_
      refine wp_c (i := .invokestatic 81) (n := 3) (Dq := 11) (r' := mm_r120) (as := [.long 1, .long 0, .long 3]) (rest := []) (ls' := [some (.long 1), none, some (.long 0), none, some (.long 3), none]) rfl rfl rfl ?_
      refine wp_x 16 (v := some (.int 1)) (h' := hp_0) (mm_dec (by decide +kernel)) ?_
      show mm_Wp X 12 mm_r189 9 [some (.ref 114), some (.int 1), some (.int w), some (.int u), some (.int z), none, none, none] [.int 1] _ _
      refine wp_s (i := .ifCond .eq 28) (n := 3) (pc' := 12) (st' := []) rfl rfl ?_
      refine wp_s (i := .iload_n 2) (n := 1) (pc' := 13) (st' := [.int w]) rfl rfl ?_
      refine wp_s (i := .i2l) (n := 1) (pc' := 14) (st' := [.long ((w).toInt64)]) rfl rfl ?_
      refine wp_s (i := .lconst 0) (n := 1) (pc' := 15) (st' := [.long 0, .long ((w).toInt64)]) rfl rfl ?_
      refine wp_s (i := .ldc2_w 198) (n := 3) (pc' := 18) (st' := [.long 2, .long 0, .long ((w).toInt64)]) rfl rfl ?_
      refine wp_c (i := .invokestatic 81) (n := 3) (Dq := 11) (r' := mm_r120) (as := [.long ((w).toInt64), .long 0, .long 2]) (rest := []) (ls' := [some (.long ((w).toInt64)), none, some (.long 0), none, some (.long 2), none]) rfl rfl rfl ?_
      refine wp_s (i := .lload_n 0) (n := 1) (pc' := 1) (st' := [.long ((w).toInt64)]) rfl rfl ?_
      refine wp_s (i := .lload_n 2) (n := 1) (pc' := 2) (st' := [.long 0, .long ((w).toInt64)]) rfl rfl ?_
      refine wp_s (i := .lcmp) (n := 1) (pc' := 3) (st' := [.int (lg_cmp ((w).toInt64) 0)]) rfl rfl ?_
      refine wp_if (t := 17) (st := []) rfl rfl (fun hc4 => ?_) (fun hc4 => ?_)
      · skip
        have q4 : (w).toInt < 0 := by have := lc_t_lt hc4; simpa using this
        exfalso; omega
      · skip
        have q4 : (w).toInt ≥ 0 := by have := lc_f_lt hc4; simpa using this
        show mm_Wp _ _ _ 6 _ _ _ _
        refine wp_s (i := .lload_n 0) (n := 1) (pc' := 7) (st' := [.long ((w).toInt64)]) rfl rfl ?_
        refine wp_s (i := .lload 4) (n := 2) (pc' := 9) (st' := [.long 2, .long ((w).toInt64)]) rfl rfl ?_
        refine wp_s (i := .lcmp) (n := 1) (pc' := 10) (st' := [.int (lg_cmp ((w).toInt64) 2)]) rfl rfl ?_
        refine wp_if (t := 17) (st := []) rfl rfl (fun hc5 => ?_) (fun hc5 => ?_)
        · skip
          have q5 : (w).toInt > 2 := by have := lc_t_gt hc5; simpa using this
          show mm_Wp _ _ _ 17 _ _ _ _
          refine wp_s (i := .iconst 0) (n := 1) (pc' := 18) (st' := [.int 0]) rfl rfl ?_
          refine wp_r (i := .ireturn) (n := 1) (v := some (.int 0)) rfl rfl ?_
          show mm_Wp X 12 mm_r189 21 [some (.ref 114), some (.int 1), some (.int w), some (.int u), some (.int z), none, none, none] [.int 0] _ _
          refine wp_s (i := .ifCond .eq 16) (n := 3) (pc' := 37) (st' := []) rfl rfl ?_
          refine wp_s (i := .iconst (-1)) (n := 1) (pc' := 38) (st' := [.int (-1)]) rfl rfl ?_
          refine wp_r (i := .ireturn) (n := 1) (v := some (.int (-1))) rfl rfl ?_
          exact ⟨rfl, pk_ok0⟩
        · skip
          have q5 : (w).toInt ≤ 2 := by have := lc_f_gt hc5; simpa using this
          exfalso; omega
    · skip
      have q3 : (w).toInt < 3 := by have := mc_f_ge hc3; simpa using this
      show mm_Wp _ _ _ 9 _ _ _ _
      refine wp_s (i := .iconst 1) (n := 1) (pc' := 10) (st' := [.int 1]) rfl rfl ?_
      refine wp_s (i := .goto 4) (n := 3) (pc' := 14) (st' := [.int 1]) rfl rfl ?_
      refine wp_r (i := .ireturn) (n := 1) (v := some (.int 1)) rfl rfl ?_
      show mm_Wp X 12 mm_r100 11 [some (.ref 0), some (.int 1), some (.int w), some (.int u), some (.int z), none, none, none, none] [.int 1] _ _
      refine wp_s (i := .ifCond .eq 15) (n := 3) (pc' := 14) (st' := []) rfl rfl ?_
      refine wp_s (i := .iload 4) (n := 2) (pc' := 16) (st' := [.int z]) rfl rfl ?_
      refine wp_if (t := 26) (st := []) rfl rfl (fun hc6 => ?_) (fun hc6 => ?_)
      · skip
        have q6 : (z).toInt < 0 := by have := mc_t_lt hc6; simpa using this
        show mm_Wp _ _ _ 26 _ _ _ _
        refine wp_s (i := .iconst (-1)) (n := 1) (pc' := 27) (st' := [.int (-1)]) rfl rfl ?_
        refine wp_r (i := .ireturn) (n := 1) (v := some (.int (-1))) rfl rfl ?_
        refine ⟨(-1), rfl, ⟨_, hb_114⟩, ?_⟩
        show mm_Wp X 12 mm_r189 0 [some (.ref 114), some (.int 1), some (.int w), some (.int u), some (.int z), none, none, none] [] _ _
        refine wp_s (i := .iload_n 1) (n := 1) (pc' := 1) (st' := [.int 1]) rfl rfl ?_
        refine wp_s (i := .i2l) (n := 1) (pc' := 2) (st' := [.long 1]) rfl rfl ?_
        refine wp_s (i := .lconst 0) (n := 1) (pc' := 3) (st' := [.long 0, .long 1]) rfl rfl ?_
        refine wp_s (i := .ldc2_w 285) (n := 3) (pc' := 6) (st' := [.long 3, .long 0, .long 1]) rfl rfl ?_
        refine wp_c (i := .invokestatic 81) (n := 3) (Dq := 11) (r' := mm_r120) (as := [.long 1, .long 0, .long 3]) (rest := []) (ls' := [some (.long 1), none, some (.long 0), none, some (.long 3), none]) rfl rfl rfl ?_
        refine wp_x 16 (v := some (.int 1)) (h' := hp_0) (mm_dec (by decide +kernel)) ?_
        show mm_Wp X 12 mm_r189 9 [some (.ref 114), some (.int 1), some (.int w), some (.int u), some (.int z), none, none, none] [.int 1] _ _
        refine wp_s (i := .ifCond .eq 28) (n := 3) (pc' := 12) (st' := []) rfl rfl ?_
        refine wp_s (i := .iload_n 2) (n := 1) (pc' := 13) (st' := [.int w]) rfl rfl ?_
        refine wp_s (i := .i2l) (n := 1) (pc' := 14) (st' := [.long ((w).toInt64)]) rfl rfl ?_
        refine wp_s (i := .lconst 0) (n := 1) (pc' := 15) (st' := [.long 0, .long ((w).toInt64)]) rfl rfl ?_
        refine wp_s (i := .ldc2_w 198) (n := 3) (pc' := 18) (st' := [.long 2, .long 0, .long ((w).toInt64)]) rfl rfl ?_
        refine wp_c (i := .invokestatic 81) (n := 3) (Dq := 11) (r' := mm_r120) (as := [.long ((w).toInt64), .long 0, .long 2]) (rest := []) (ls' := [some (.long ((w).toInt64)), none, some (.long 0), none, some (.long 2), none]) rfl rfl rfl ?_
        refine wp_s (i := .lload_n 0) (n := 1) (pc' := 1) (st' := [.long ((w).toInt64)]) rfl rfl ?_
        refine wp_s (i := .lload_n 2) (n := 1) (pc' := 2) (st' := [.long 0, .long ((w).toInt64)]) rfl rfl ?_
        refine wp_s (i := .lcmp) (n := 1) (pc' := 3) (st' := [.int (lg_cmp ((w).toInt64) 0)]) rfl rfl ?_
        refine wp_if (t := 17) (st := []) rfl rfl (fun hc7 => ?_) (fun hc7 => ?_)
        · skip
          have q7 : (w).toInt < 0 := by have := lc_t_lt hc7; simpa using this
          exfalso; omega
        · skip
          have q7 : (w).toInt ≥ 0 := by have := lc_f_lt hc7; simpa using this
          show mm_Wp _ _ _ 6 _ _ _ _
          refine wp_s (i := .lload_n 0) (n := 1) (pc' := 7) (st' := [.long ((w).toInt64)]) rfl rfl ?_
          refine wp_s (i := .lload 4) (n := 2) (pc' := 9) (st' := [.long 2, .long ((w).toInt64)]) rfl rfl ?_
          refine wp_s (i := .lcmp) (n := 1) (pc' := 10) (st' := [.int (lg_cmp ((w).toInt64) 2)]) rfl rfl ?_
          refine wp_if (t := 17) (st := []) rfl rfl (fun hc8 => ?_) (fun hc8 => ?_)
          · skip
            have q8 : (w).toInt > 2 := by have := lc_t_gt hc8; simpa using this
            exfalso; omega
          · skip
            have q8 : (w).toInt ≤ 2 := by have := lc_f_gt hc8; simpa using this
            show mm_Wp _ _ _ 13 _ _ _ _
            refine wp_s (i := .iconst 1) (n := 1) (pc' := 14) (st' := [.int 1]) rfl rfl ?_
            refine wp_s (i := .goto 4) (n := 3) (pc' := 18) (st' := [.int 1]) rfl rfl ?_
            refine wp_r (i := .ireturn) (n := 1) (v := some (.int 1)) rfl rfl ?_
            show mm_Wp X 12 mm_r189 21 [some (.ref 114), some (.int 1), some (.int w), some (.int u), some (.int z), none, none, none] [.int 1] _ _
            refine wp_s (i := .ifCond .eq 16) (n := 3) (pc' := 24) (st' := []) rfl rfl ?_
            refine wp_s (i := .iload 4) (n := 2) (pc' := 26) (st' := [.int z]) rfl rfl ?_
            refine wp_s (i := .i2l) (n := 1) (pc' := 27) (st' := [.long ((z).toInt64)]) rfl rfl ?_
            refine wp_s (i := .lconst 0) (n := 1) (pc' := 28) (st' := [.long 0, .long ((z).toInt64)]) rfl rfl ?_
            refine wp_s (i := .ldc2_w 277) (n := 3) (pc' := 31) (st' := [.long 12, .long 0, .long ((z).toInt64)]) rfl rfl ?_
            refine wp_c (i := .invokestatic 81) (n := 3) (Dq := 11) (r' := mm_r120) (as := [.long ((z).toInt64), .long 0, .long 12]) (rest := []) (ls' := [some (.long ((z).toInt64)), none, some (.long 0), none, some (.long 12), none]) rfl rfl rfl ?_
            refine wp_s (i := .lload_n 0) (n := 1) (pc' := 1) (st' := [.long ((z).toInt64)]) rfl rfl ?_
            refine wp_s (i := .lload_n 2) (n := 1) (pc' := 2) (st' := [.long 0, .long ((z).toInt64)]) rfl rfl ?_
            refine wp_s (i := .lcmp) (n := 1) (pc' := 3) (st' := [.int (lg_cmp ((z).toInt64) 0)]) rfl rfl ?_
            refine wp_if (t := 17) (st := []) rfl rfl (fun hc9 => ?_) (fun hc9 => ?_)
            · skip
              have q9 : (z).toInt < 0 := by have := lc_t_lt hc9; simpa using this
              show mm_Wp _ _ _ 17 _ _ _ _
              refine wp_s (i := .iconst 0) (n := 1) (pc' := 18) (st' := [.int 0]) rfl rfl ?_
              refine wp_r (i := .ireturn) (n := 1) (v := some (.int 0)) rfl rfl ?_
              show mm_Wp X 12 mm_r189 34 [some (.ref 114), some (.int 1), some (.int w), some (.int u), some (.int z), none, none, none] [.int 0] _ _
              refine wp_s (i := .ifCond .ne 5) (n := 3) (pc' := 37) (st' := []) rfl rfl ?_
              refine wp_s (i := .iconst (-1)) (n := 1) (pc' := 38) (st' := [.int (-1)]) rfl rfl ?_
              refine wp_r (i := .ireturn) (n := 1) (v := some (.int (-1))) rfl rfl ?_
              exact ⟨rfl, pk_ok0⟩
            · skip
              have q9 : (z).toInt ≥ 0 := by have := lc_f_lt hc9; simpa using this
              exfalso; omega
      · skip
        have q6 : (z).toInt ≥ 0 := by have := mc_f_lt hc6; simpa using this
        show mm_Wp _ _ _ 19 _ _ _ _
        refine wp_s (i := .iload 4) (n := 2) (pc' := 21) (st' := [.int z]) rfl rfl ?_
        refine wp_s (i := .bipush 12) (n := 2) (pc' := 23) (st' := [.int 12, .int z]) rfl rfl ?_
        refine wp_ic (t := 28) (st := []) rfl rfl (fun hc10 => ?_) (fun hc10 => ?_)
        · skip
          have q10 : (z).toInt ≤ 12 := by have := mc_t_le hc10; simpa using this
          show mm_Wp _ _ _ 28 _ _ _ _
          refine wp_s (i := .aload_n 0) (n := 1) (pc' := 29) (st' := [.ref 0]) rfl rfl ?_
          refine wp_gf (idx := 64) (a := 0) (v := .ref 67) (pc' := 32) rfl rfl hb_0 rfl rfl ?_
          refine wp_s (i := .iload_n 1) (n := 1) (pc' := 33) (st' := [.int 1, .ref 67]) rfl rfl ?_
          refine wp_aa (b := 108) (pc' := 34) rfl (by decide) hb_67 rfl rfl rfl ?_
          refine wp_s (i := .astore 5) (n := 2) (pc' := 36) (ls' := [some (.ref 0), some (.int 1), some (.int w), some (.int u), some (.int z), some (.ref 108), none, none, none]) (st' := []) rfl rfl ?_
          refine wp_s (i := .iconst 0) (n := 1) (pc' := 37) (st' := [.int 0]) rfl rfl ?_
          refine wp_s (i := .istore 6) (n := 2) (pc' := 39) (ls' := [some (.ref 0), some (.int 1), some (.int w), some (.int u), some (.int z), some (.ref 108), some (.int 0), none, none]) (st' := []) rfl rfl ?_
          refine wp_s (i := .iconst 0) (n := 1) (pc' := 40) (st' := [.int 0]) rfl rfl ?_
          refine wp_s (i := .istore 7) (n := 2) (pc' := 42) (ls' := [some (.ref 0), some (.int 1), some (.int w), some (.int u), some (.int z), some (.ref 108), some (.int 0), some (.int 0), none]) (st' := []) rfl rfl ?_
          refine wp_s (i := .iload 6) (n := 2) (pc' := 44) (st' := [.int 0]) rfl rfl ?_
          refine wp_s (i := .iload 4) (n := 2) (pc' := 46) (st' := [.int z, .int 0]) rfl rfl ?_
          refine wp_ic (t := 99) (st := []) rfl rfl (fun hc11 => ?_) (fun hc11 => ?_)
          · skip
            show mm_Wp _ _ _ 99 _ _ _ _
            refine wp_s (i := .iconst 0) (n := 1) (pc' := 100) (st' := [.int 0]) rfl rfl ?_
            refine wp_s (i := .istore 8) (n := 2) (pc' := 102) (ls' := [some (.ref 0), some (.int 1), some (.int w), some (.int u), some (.int z), some (.ref 108), some (.int 0), some (.int 0), some (.int 0)]) (st' := []) rfl rfl ?_
            refine wp_s (i := .iload 8) (n := 2) (pc' := 104) (st' := [.int 0]) rfl rfl ?_
            refine wp_s (i := .iload 6) (n := 2) (pc' := 106) (st' := [.int 0, .int 0]) rfl rfl ?_
            refine wp_s (i := .if_icmp .ge 35) (n := 3) (pc' := 141) (st' := []) rfl rfl ?_
            refine wp_s (i := .aload_n 0) (n := 1) (pc' := 142) (st' := [.ref 0]) rfl rfl ?_
            refine wp_s (i := .iload 7) (n := 2) (pc' := 144) (st' := [.int 0, .ref 0]) rfl rfl ?_
            refine wp_pf (idx := 323) (a := 0) (fs' := [.ref 1, .ref 2, .ref 25, .ref 36, .ref 46, .ref 54, .ref 65, .ref 66, .ref 67, .int 0, .int 0]) (pc' := 147) rfl rfl rfl hb_0 rfl rfl rfl rfl rfl ?_
            refine wp_s (i := .iload 6) (n := 2) (pc' := 149) (st' := [.int 0]) rfl rfl ?_
            refine wp_r (i := .ireturn) (n := 1) (v := some (.int 0)) rfl rfl ?_
            refine ⟨0, rfl, ⟨_, (mm_sn rfl hb_114)⟩, ?_⟩
            show mm_Wp X 12 mm_r189 0 [some (.ref 114), some (.int 1), some (.int w), some (.int u), some (.int z), none, none, none] [] _ _
            refine wp_s (i := .iload_n 1) (n := 1) (pc' := 1) (st' := [.int 1]) rfl rfl ?_
            refine wp_s (i := .i2l) (n := 1) (pc' := 2) (st' := [.long 1]) rfl rfl ?_
            refine wp_s (i := .lconst 0) (n := 1) (pc' := 3) (st' := [.long 0, .long 1]) rfl rfl ?_
            refine wp_s (i := .ldc2_w 285) (n := 3) (pc' := 6) (st' := [.long 3, .long 0, .long 1]) rfl rfl ?_
            refine wp_c (i := .invokestatic 81) (n := 3) (Dq := 11) (r' := mm_r120) (as := [.long 1, .long 0, .long 3]) (rest := []) (ls' := [some (.long 1), none, some (.long 0), none, some (.long 3), none]) rfl rfl rfl ?_
            refine wp_x 16 (v := some (.int 1)) (h' := hp_0.set 0 (.inr (9, [.ref 1, .ref 2, .ref 25, .ref 36, .ref 46, .ref 54, .ref 65, .ref 66, .ref 67, .int 0, .int 0]))) (mm_dec (by decide +kernel)) ?_
            show mm_Wp X 12 mm_r189 9 [some (.ref 114), some (.int 1), some (.int w), some (.int u), some (.int z), none, none, none] [.int 1] _ _
            refine wp_s (i := .ifCond .eq 28) (n := 3) (pc' := 12) (st' := []) rfl rfl ?_
            refine wp_s (i := .iload_n 2) (n := 1) (pc' := 13) (st' := [.int w]) rfl rfl ?_
            refine wp_s (i := .i2l) (n := 1) (pc' := 14) (st' := [.long ((w).toInt64)]) rfl rfl ?_
            refine wp_s (i := .lconst 0) (n := 1) (pc' := 15) (st' := [.long 0, .long ((w).toInt64)]) rfl rfl ?_
            refine wp_s (i := .ldc2_w 198) (n := 3) (pc' := 18) (st' := [.long 2, .long 0, .long ((w).toInt64)]) rfl rfl ?_
            refine wp_c (i := .invokestatic 81) (n := 3) (Dq := 11) (r' := mm_r120) (as := [.long ((w).toInt64), .long 0, .long 2]) (rest := []) (ls' := [some (.long ((w).toInt64)), none, some (.long 0), none, some (.long 2), none]) rfl rfl rfl ?_
            refine wp_s (i := .lload_n 0) (n := 1) (pc' := 1) (st' := [.long ((w).toInt64)]) rfl rfl ?_
            refine wp_s (i := .lload_n 2) (n := 1) (pc' := 2) (st' := [.long 0, .long ((w).toInt64)]) rfl rfl ?_
            refine wp_s (i := .lcmp) (n := 1) (pc' := 3) (st' := [.int (lg_cmp ((w).toInt64) 0)]) rfl rfl ?_
            refine wp_if (t := 17) (st := []) rfl rfl (fun hc12 => ?_) (fun hc12 => ?_)
            · skip
              have q12 : (w).toInt < 0 := by have := lc_t_lt hc12; simpa using this
              exfalso; omega
            · skip
              have q12 : (w).toInt ≥ 0 := by have := lc_f_lt hc12; simpa using this
              show mm_Wp _ _ _ 6 _ _ _ _
              refine wp_s (i := .lload_n 0) (n := 1) (pc' := 7) (st' := [.long ((w).toInt64)]) rfl rfl ?_
              refine wp_s (i := .lload 4) (n := 2) (pc' := 9) (st' := [.long 2, .long ((w).toInt64)]) rfl rfl ?_
              refine wp_s (i := .lcmp) (n := 1) (pc' := 10) (st' := [.int (lg_cmp ((w).toInt64) 2)]) rfl rfl ?_
              refine wp_if (t := 17) (st := []) rfl rfl (fun hc13 => ?_) (fun hc13 => ?_)
              · skip
                have q13 : (w).toInt > 2 := by have := lc_t_gt hc13; simpa using this
                exfalso; omega
              · skip
                have q13 : (w).toInt ≤ 2 := by have := lc_f_gt hc13; simpa using this
                show mm_Wp _ _ _ 13 _ _ _ _
                refine wp_s (i := .iconst 1) (n := 1) (pc' := 14) (st' := [.int 1]) rfl rfl ?_
                refine wp_s (i := .goto 4) (n := 3) (pc' := 18) (st' := [.int 1]) rfl rfl ?_
                refine wp_r (i := .ireturn) (n := 1) (v := some (.int 1)) rfl rfl ?_
                show mm_Wp X 12 mm_r189 21 [some (.ref 114), some (.int 1), some (.int w), some (.int u), some (.int z), none, none, none] [.int 1] _ _
                refine wp_s (i := .ifCond .eq 16) (n := 3) (pc' := 24) (st' := []) rfl rfl ?_
                refine wp_s (i := .iload 4) (n := 2) (pc' := 26) (st' := [.int z]) rfl rfl ?_
                refine wp_s (i := .i2l) (n := 1) (pc' := 27) (st' := [.long ((z).toInt64)]) rfl rfl ?_
                refine wp_s (i := .lconst 0) (n := 1) (pc' := 28) (st' := [.long 0, .long ((z).toInt64)]) rfl rfl ?_
                refine wp_s (i := .ldc2_w 277) (n := 3) (pc' := 31) (st' := [.long 12, .long 0, .long ((z).toInt64)]) rfl rfl ?_
                refine wp_c (i := .invokestatic 81) (n := 3) (Dq := 11) (r' := mm_r120) (as := [.long ((z).toInt64), .long 0, .long 12]) (rest := []) (ls' := [some (.long ((z).toInt64)), none, some (.long 0), none, some (.long 12), none]) rfl rfl rfl ?_
                refine wp_s (i := .lload_n 0) (n := 1) (pc' := 1) (st' := [.long ((z).toInt64)]) rfl rfl ?_
                refine wp_s (i := .lload_n 2) (n := 1) (pc' := 2) (st' := [.long 0, .long ((z).toInt64)]) rfl rfl ?_
                refine wp_s (i := .lcmp) (n := 1) (pc' := 3) (st' := [.int (lg_cmp ((z).toInt64) 0)]) rfl rfl ?_
                refine wp_if (t := 17) (st := []) rfl rfl (fun hc14 => ?_) (fun hc14 => ?_)
                · skip
                  have q14 : (z).toInt < 0 := by have := lc_t_lt hc14; simpa using this
                  exfalso; omega
                · skip
                  have q14 : (z).toInt ≥ 0 := by have := lc_f_lt hc14; simpa using this
                  show mm_Wp _ _ _ 6 _ _ _ _
                  refine wp_s (i := .lload_n 0) (n := 1) (pc' := 7) (st' := [.long ((z).toInt64)]) rfl rfl ?_
                  refine wp_s (i := .lload 4) (n := 2) (pc' := 9) (st' := [.long 12, .long ((z).toInt64)]) rfl rfl ?_
                  refine wp_s (i := .lcmp) (n := 1) (pc' := 10) (st' := [.int (lg_cmp ((z).toInt64) 12)]) rfl rfl ?_
                  refine wp_if (t := 17) (st := []) rfl rfl (fun hc15 => ?_) (fun hc15 => ?_)
                  · skip
                    have q15 : (z).toInt > 12 := by have := lc_t_gt hc15; simpa using this
                    exfalso; omega
                  · skip
                    have q15 : (z).toInt ≤ 12 := by have := lc_f_gt hc15; simpa using this
                    show mm_Wp _ _ _ 13 _ _ _ _
                    refine wp_s (i := .iconst 1) (n := 1) (pc' := 14) (st' := [.int 1]) rfl rfl ?_
                    refine wp_s (i := .goto 4) (n := 3) (pc' := 18) (st' := [.int 1]) rfl rfl ?_
                    refine wp_r (i := .ireturn) (n := 1) (v := some (.int 1)) rfl rfl ?_
                    show mm_Wp X 12 mm_r189 34 [some (.ref 114), some (.int 1), some (.int w), some (.int u), some (.int z), none, none, none] [.int 1] _ _
                    refine wp_s (i := .ifCond .ne 5) (n := 3) (pc' := 39) (st' := []) rfl rfl ?_
                    refine wp_s (i := .iconst 0) (n := 1) (pc' := 40) (st' := [.int 0]) rfl rfl ?_
                    refine wp_s (i := .istore 5) (n := 2) (pc' := 42) (ls' := [some (.ref 114), some (.int 1), some (.int w), some (.int u), some (.int z), some (.int 0), none, none]) (st' := []) rfl rfl ?_
                    refine wp_s (i := .iconst 0) (n := 1) (pc' := 43) (st' := [.int 0]) rfl rfl ?_
                    refine wp_s (i := .istore 6) (n := 2) (pc' := 45) (ls' := [some (.ref 114), some (.int 1), some (.int w), some (.int u), some (.int z), some (.int 0), some (.int 0), none]) (st' := []) rfl rfl ?_
                    refine wp_s (i := .iload 6) (n := 2) (pc' := 47) (st' := [.int 0]) rfl rfl ?_
                    refine wp_s (i := .iload 4) (n := 2) (pc' := 49) (st' := [.int z, .int 0]) rfl rfl ?_
                    refine wp_ic (t := 169) (st := []) rfl rfl (fun hc16 => ?_) (fun hc16 => ?_)
                    · skip
                      show mm_Wp _ _ _ 169 _ _ _ _
                      refine wp_s (i := .iconst 0) (n := 1) (pc' := 170) (st' := [.int 0]) rfl rfl ?_
                      refine wp_s (i := .istore 7) (n := 2) (pc' := 172) (ls' := [some (.ref 114), some (.int 1), some (.int w), some (.int u), some (.int z), some (.int 0), some (.int 0), some (.int 0)]) (st' := []) rfl rfl ?_
                      refine wp_s (i := .iload 7) (n := 2) (pc' := 174) (st' := [.int 0]) rfl rfl ?_
                      refine wp_s (i := .iload 6) (n := 2) (pc' := 176) (st' := [.int 0, .int 0]) rfl rfl ?_
                      refine wp_s (i := .if_icmp .ge 29) (n := 3) (pc' := 205) (st' := []) rfl rfl ?_
                      refine wp_s (i := .aload_n 0) (n := 1) (pc' := 206) (st' := [.ref 114]) rfl rfl ?_
                      refine wp_s (i := .iload 5) (n := 2) (pc' := 208) (st' := [.int 0, .ref 114]) rfl rfl ?_
                      refine wp_pf (idx := 287) (a := 114) (fs' := [.ref 115, .int 0, .int 0, .int 0, .int 0, .int 0, .int 0, .ref 116, .ref 117, .ref 118, .ref 119, .ref 120, .ref 121, .ref 122, .ref 123, .ref 124, .ref 125, .int 0, .int 0, .int 0, .int 0, .ref 126, .int 0, .int 0, .int 0, .int 0, .int 0, .int 0, .int 0, .int 0, .ref 127, .ref 128, .ref 129, .ref 130, .int 0, .ref 131, .ref 132, .int 0, .int 0, .int 0, .int 0, .ref 133, .ref 134, .ref 135, .ref 136, .int 0]) (pc' := 211) rfl rfl rfl (mm_sn rfl hb_114) rfl rfl rfl rfl rfl ?_
                      refine wp_s (i := .iload 6) (n := 2) (pc' := 213) (st' := [.int 0]) rfl rfl ?_
                      refine wp_r (i := .ireturn) (n := 1) (v := some (.int 0)) rfl rfl ?_
                      exact ⟨rfl, (pk_okS (pk_okS pk_ok0 hb_0 rfl) (mm_sn rfl hb_114) rfl)⟩
                    · skip
                      show mm_Wp _ _ _ 52 _ _ _ _
                      refine wp_s (i := .iload 5) (n := 2) (pc' := 54) (st' := [.int 0]) rfl rfl ?_
                      refine wp_s (i := .ifCond .ne 115) (n := 3) (pc' := 57) (st' := []) rfl rfl ?_
                      refine wp_s (i := .aload_n 0) (n := 1) (pc' := 58) (st' := [.ref 114]) rfl rfl ?_
                      refine wp_gf (idx := 68) (a := 114) (v := .ref 134) (pc' := 61) rfl rfl (mm_sn rfl hb_114) rfl rfl ?_
                      refine wp_s (i := .iload_n 1) (n := 1) (pc' := 62) (st' := [.int 1, .ref 134]) rfl rfl ?_
                      refine wp_ia (x := (-4)) (pc' := 63) rfl (mm_sn rfl hb_134) rfl rfl rfl ?_
                      refine wp_s (i := .bipush (-4)) (n := 2) (pc' := 65) (st' := [.int (-4), .int (-4)]) rfl rfl ?_
                      refine wp_s (i := .if_icmp .ne 7) (n := 3) (pc' := 68) (st' := []) rfl rfl ?_
                      refine wp_s (i := .iconst 1) (n := 1) (pc' := 69) (st' := [.int 1]) rfl rfl ?_
                      refine wp_s (i := .goto 44) (n := 3) (pc' := 113) (st' := [.int 1]) rfl rfl ?_
                      refine wp_s (i := .istore 5) (n := 2) (pc' := 115) (ls' := [some (.ref 114), some (.int 1), some (.int w), some (.int u), some (.int z), some (.int 1), some (.int 0), none]) (st' := []) rfl rfl ?_
                      refine wp_s (i := .iload 5) (n := 2) (pc' := 117) (st' := [.int 1]) rfl rfl ?_
                      refine wp_s (i := .ifCond .ne 34) (n := 3) (pc' := 151) (st' := []) rfl rfl ?_
                      refine wp_s (i := .iload 6) (n := 2) (pc' := 153) (st' := [.int 0]) rfl rfl ?_
                      refine wp_s (i := .iload 5) (n := 2) (pc' := 155) (st' := [.int 1, .int 0]) rfl rfl ?_
                      refine wp_s (i := .ifCond .ne 7) (n := 3) (pc' := 162) (st' := [.int 0]) rfl rfl ?_
                      refine wp_s (i := .iconst 0) (n := 1) (pc' := 163) (st' := [.int 0, .int 0]) rfl rfl ?_
                      refine wp_s (i := .iadd) (n := 1) (pc' := 164) (st' := [.int 0]) rfl rfl ?_
                      refine wp_s (i := .istore 6) (n := 2) (pc' := 166) (ls' := [some (.ref 114), some (.int 1), some (.int w), some (.int u), some (.int z), some (.int 1), some (.int 0), none]) (st' := []) rfl rfl ?_
                      refine wp_s (i := .goto (-121)) (n := 3) (pc' := 45) (st' := []) rfl rfl ?_
                      refine wp_s (i := .iload 6) (n := 2) (pc' := 47) (st' := [.int 0]) rfl rfl ?_
                      refine wp_s (i := .iload 4) (n := 2) (pc' := 49) (st' := [.int z, .int 0]) rfl rfl ?_
                      refine wp_ic (t := 169) (st := []) rfl rfl (fun hc17 => ?_) (fun hc17 => ?_)
                      · skip
                        show mm_Wp _ _ _ 169 _ _ _ _
                        refine wp_s (i := .iconst 0) (n := 1) (pc' := 170) (st' := [.int 0]) rfl rfl ?_
                        refine wp_s (i := .istore 7) (n := 2) (pc' := 172) (ls' := [some (.ref 114), some (.int 1), some (.int w), some (.int u), some (.int z), some (.int 1), some (.int 0), some (.int 0)]) (st' := []) rfl rfl ?_
                        refine wp_s (i := .iload 7) (n := 2) (pc' := 174) (st' := [.int 0]) rfl rfl ?_
                        refine wp_s (i := .iload 6) (n := 2) (pc' := 176) (st' := [.int 0, .int 0]) rfl rfl ?_
                        refine wp_s (i := .if_icmp .ge 29) (n := 3) (pc' := 205) (st' := []) rfl rfl ?_
                        refine wp_s (i := .aload_n 0) (n := 1) (pc' := 206) (st' := [.ref 114]) rfl rfl ?_
                        refine wp_s (i := .iload 5) (n := 2) (pc' := 208) (st' := [.int 1, .ref 114]) rfl rfl ?_
                        refine wp_pf (idx := 287) (a := 114) (fs' := [.ref 115, .int 0, .int 0, .int 0, .int 0, .int 0, .int 0, .ref 116, .ref 117, .ref 118, .ref 119, .ref 120, .ref 121, .ref 122, .ref 123, .ref 124, .ref 125, .int 0, .int 0, .int 0, .int 0, .ref 126, .int 0, .int 0, .int 0, .int 0, .int 0, .int 0, .int 0, .int 0, .ref 127, .ref 128, .ref 129, .ref 130, .int 0, .ref 131, .ref 132, .int 0, .int 0, .int 0, .int 0, .ref 133, .ref 134, .ref 135, .ref 136, .int 1]) (pc' := 211) rfl rfl rfl (mm_sn rfl hb_114) rfl rfl rfl rfl rfl ?_
                        refine wp_s (i := .iload 6) (n := 2) (pc' := 213) (st' := [.int 0]) rfl rfl ?_
                        refine wp_r (i := .ireturn) (n := 1) (v := some (.int 0)) rfl rfl ?_
                        exact ⟨rfl, (pk_okS (pk_okS pk_ok0 hb_0 rfl) (mm_sn rfl hb_114) rfl)⟩
                      · skip
                        show mm_Wp _ _ _ 52 _ _ _ _
                        refine wp_s (i := .iload 5) (n := 2) (pc' := 54) (st' := [.int 1]) rfl rfl ?_
                        refine wp_s (i := .ifCond .ne 115) (n := 3) (pc' := 169) (st' := []) rfl rfl ?_
                        refine wp_s (i := .iconst 0) (n := 1) (pc' := 170) (st' := [.int 0]) rfl rfl ?_
                        refine wp_s (i := .istore 7) (n := 2) (pc' := 172) (ls' := [some (.ref 114), some (.int 1), some (.int w), some (.int u), some (.int z), some (.int 1), some (.int 0), some (.int 0)]) (st' := []) rfl rfl ?_
                        refine wp_s (i := .iload 7) (n := 2) (pc' := 174) (st' := [.int 0]) rfl rfl ?_
                        refine wp_s (i := .iload 6) (n := 2) (pc' := 176) (st' := [.int 0, .int 0]) rfl rfl ?_
                        refine wp_s (i := .if_icmp .ge 29) (n := 3) (pc' := 205) (st' := []) rfl rfl ?_
                        refine wp_s (i := .aload_n 0) (n := 1) (pc' := 206) (st' := [.ref 114]) rfl rfl ?_
                        refine wp_s (i := .iload 5) (n := 2) (pc' := 208) (st' := [.int 1, .ref 114]) rfl rfl ?_
                        refine wp_pf (idx := 287) (a := 114) (fs' := [.ref 115, .int 0, .int 0, .int 0, .int 0, .int 0, .int 0, .ref 116, .ref 117, .ref 118, .ref 119, .ref 120, .ref 121, .ref 122, .ref 123, .ref 124, .ref 125, .int 0, .int 0, .int 0, .int 0, .ref 126, .int 0, .int 0, .int 0, .int 0, .int 0, .int 0, .int 0, .int 0, .ref 127, .ref 128, .ref 129, .ref 130, .int 0, .ref 131, .ref 132, .int 0, .int 0, .int 0, .int 0, .ref 133, .ref 134, .ref 135, .ref 136, .int 1]) (pc' := 211) rfl rfl rfl (mm_sn rfl hb_114) rfl rfl rfl rfl rfl ?_
                        refine wp_s (i := .iload 6) (n := 2) (pc' := 213) (st' := [.int 0]) rfl rfl ?_
                        refine wp_r (i := .ireturn) (n := 1) (v := some (.int 0)) rfl rfl ?_
                        exact ⟨rfl, (pk_okS (pk_okS pk_ok0 hb_0 rfl) (mm_sn rfl hb_114) rfl)⟩
          · skip
            show mm_Wp _ _ _ 49 _ _ _ _
            refine wp_s (i := .iload 7) (n := 2) (pc' := 51) (st' := [.int 0]) rfl rfl ?_
            refine wp_s (i := .ifCond .ne 48) (n := 3) (pc' := 54) (st' := []) rfl rfl ?_
            refine wp_s (i := .aload 5) (n := 2) (pc' := 56) (st' := [.ref 108]) rfl rfl ?_
            refine wp_s (i := .iload_n 2) (n := 1) (pc' := 57) (st' := [.int w, .ref 108]) rfl rfl ?_
            refine wp_s (i := .iload_n 3) (n := 1) (pc' := 58) (st' := [.int u, .int w, .ref 108]) rfl rfl ?_
            refine wp_s (i := .iload 6) (n := 2) (pc' := 60) (st' := [.int 0, .int u, .int w, .ref 108]) rfl rfl ?_
            refine wp_s (i := .iadd) (n := 1) (pc' := 61) (st' := [.int (u + 0), .int w, .ref 108]) rfl rfl ?_
            refine wp_c (i := .invokevirtual 313) (n := 3) (Dq := 11) (r' := mm_r60) (as := [.ref 108, .int w, .int (u + 0)]) (rest := []) (ls' := [some (.ref 108), some (.int w), some (.int (u + 0))]) rfl rfl rfl ?_
            refine wp_s (i := .aload_n 0) (n := 1) (pc' := 1) (st' := [.ref 108]) rfl rfl ?_
            refine wp_c (i := .invokevirtual 28) (n := 3) (Dq := 10) (r' := mm_r58) (as := [.ref 108]) (rest := []) (ls' := [some (.ref 108)]) rfl rfl rfl ?_
            refine wp_x 12 (v := some (.int 1)) (h' := hp_0) (mm_dec (by decide +kernel)) ?_
            show mm_Wp X 11 mm_r60 4 [some (.ref 108), some (.int w), some (.int (u + 0))] [.int 1] _ _
            refine wp_s (i := .ifCond .eq 5) (n := 3) (pc' := 7) (st' := []) rfl rfl ?_
            refine wp_s (i := .iconst 1) (n := 1) (pc' := 8) (st' := [.int 1]) rfl rfl ?_
            refine wp_r (i := .ireturn) (n := 1) (v := some (.int 1)) rfl rfl ?_
            show mm_Wp X 12 mm_r100 64 [some (.ref 0), some (.int 1), some (.int w), some (.int u), some (.int z), some (.ref 108), some (.int 0), some (.int 0), none] [.int 1] _ _
            refine wp_s (i := .istore 7) (n := 2) (pc' := 66) (ls' := [some (.ref 0), some (.int 1), some (.int w), some (.int u), some (.int z), some (.ref 108), some (.int 0), some (.int 1), none]) (st' := []) rfl rfl ?_
            refine wp_s (i := .iload 7) (n := 2) (pc' := 68) (st' := [.int 1]) rfl rfl ?_
            refine wp_s (i := .ifCond .ne (-26)) (n := 3) (pc' := 42) (st' := []) rfl rfl ?_
            refine wp_s (i := .iload 6) (n := 2) (pc' := 44) (st' := [.int 0]) rfl rfl ?_
            refine wp_s (i := .iload 4) (n := 2) (pc' := 46) (st' := [.int z, .int 0]) rfl rfl ?_
            refine wp_ic (t := 99) (st := []) rfl rfl (fun hc18 => ?_) (fun hc18 => ?_)
            · skip
              show mm_Wp _ _ _ 99 _ _ _ _
              refine wp_s (i := .iconst 0) (n := 1) (pc' := 100) (st' := [.int 0]) rfl rfl ?_
              refine wp_s (i := .istore 8) (n := 2) (pc' := 102) (ls' := [some (.ref 0), some (.int 1), some (.int w), some (.int u), some (.int z), some (.ref 108), some (.int 0), some (.int 1), some (.int 0)]) (st' := []) rfl rfl ?_
              refine wp_s (i := .iload 8) (n := 2) (pc' := 104) (st' := [.int 0]) rfl rfl ?_
              refine wp_s (i := .iload 6) (n := 2) (pc' := 106) (st' := [.int 0, .int 0]) rfl rfl ?_
              refine wp_s (i := .if_icmp .ge 35) (n := 3) (pc' := 141) (st' := []) rfl rfl ?_
              refine wp_s (i := .aload_n 0) (n := 1) (pc' := 142) (st' := [.ref 0]) rfl rfl ?_
              refine wp_s (i := .iload 7) (n := 2) (pc' := 144) (st' := [.int 1, .ref 0]) rfl rfl ?_
              refine wp_pf (idx := 323) (a := 0) (fs' := [.ref 1, .ref 2, .ref 25, .ref 36, .ref 46, .ref 54, .ref 65, .ref 66, .ref 67, .int 0, .int 1]) (pc' := 147) rfl rfl rfl hb_0 rfl rfl rfl rfl rfl ?_
              refine wp_s (i := .iload 6) (n := 2) (pc' := 149) (st' := [.int 0]) rfl rfl ?_
              refine wp_r (i := .ireturn) (n := 1) (v := some (.int 0)) rfl rfl ?_
              refine ⟨0, rfl, ⟨_, (mm_sn rfl hb_114)⟩, ?_⟩
              show mm_Wp X 12 mm_r189 0 [some (.ref 114), some (.int 1), some (.int w), some (.int u), some (.int z), none, none, none] [] _ _
              refine wp_s (i := .iload_n 1) (n := 1) (pc' := 1) (st' := [.int 1]) rfl rfl ?_
              refine wp_s (i := .i2l) (n := 1) (pc' := 2) (st' := [.long 1]) rfl rfl ?_
              refine wp_s (i := .lconst 0) (n := 1) (pc' := 3) (st' := [.long 0, .long 1]) rfl rfl ?_
              refine wp_s (i := .ldc2_w 285) (n := 3) (pc' := 6) (st' := [.long 3, .long 0, .long 1]) rfl rfl ?_
              refine wp_c (i := .invokestatic 81) (n := 3) (Dq := 11) (r' := mm_r120) (as := [.long 1, .long 0, .long 3]) (rest := []) (ls' := [some (.long 1), none, some (.long 0), none, some (.long 3), none]) rfl rfl rfl ?_
              refine wp_x 16 (v := some (.int 1)) (h' := hp_0.set 0 (.inr (9, [.ref 1, .ref 2, .ref 25, .ref 36, .ref 46, .ref 54, .ref 65, .ref 66, .ref 67, .int 0, .int 1]))) (mm_dec (by decide +kernel)) ?_
              show mm_Wp X 12 mm_r189 9 [some (.ref 114), some (.int 1), some (.int w), some (.int u), some (.int z), none, none, none] [.int 1] _ _
              refine wp_s (i := .ifCond .eq 28) (n := 3) (pc' := 12) (st' := []) rfl rfl ?_
              refine wp_s (i := .iload_n 2) (n := 1) (pc' := 13) (st' := [.int w]) rfl rfl ?_
              refine wp_s (i := .i2l) (n := 1) (pc' := 14) (st' := [.long ((w).toInt64)]) rfl rfl ?_
              refine wp_s (i := .lconst 0) (n := 1) (pc' := 15) (st' := [.long 0, .long ((w).toInt64)]) rfl rfl ?_
              refine wp_s (i := .ldc2_w 198) (n := 3) (pc' := 18) (st' := [.long 2, .long 0, .long ((w).toInt64)]) rfl rfl ?_
              refine wp_c (i := .invokestatic 81) (n := 3) (Dq := 11) (r' := mm_r120) (as := [.long ((w).toInt64), .long 0, .long 2]) (rest := []) (ls' := [some (.long ((w).toInt64)), none, some (.long 0), none, some (.long 2), none]) rfl rfl rfl ?_
              refine wp_s (i := .lload_n 0) (n := 1) (pc' := 1) (st' := [.long ((w).toInt64)]) rfl rfl ?_
              refine wp_s (i := .lload_n 2) (n := 1) (pc' := 2) (st' := [.long 0, .long ((w).toInt64)]) rfl rfl ?_
              refine wp_s (i := .lcmp) (n := 1) (pc' := 3) (st' := [.int (lg_cmp ((w).toInt64) 0)]) rfl rfl ?_
              refine wp_if (t := 17) (st := []) rfl rfl (fun hc19 => ?_) (fun hc19 => ?_)
              · skip
                have q19 : (w).toInt < 0 := by have := lc_t_lt hc19; simpa using this
                exfalso; omega
              · skip
                have q19 : (w).toInt ≥ 0 := by have := lc_f_lt hc19; simpa using this
                show mm_Wp _ _ _ 6 _ _ _ _
                refine wp_s (i := .lload_n 0) (n := 1) (pc' := 7) (st' := [.long ((w).toInt64)]) rfl rfl ?_
                refine wp_s (i := .lload 4) (n := 2) (pc' := 9) (st' := [.long 2, .long ((w).toInt64)]) rfl rfl ?_
                refine wp_s (i := .lcmp) (n := 1) (pc' := 10) (st' := [.int (lg_cmp ((w).toInt64) 2)]) rfl rfl ?_
                refine wp_if (t := 17) (st := []) rfl rfl (fun hc20 => ?_) (fun hc20 => ?_)
                · skip
                  have q20 : (w).toInt > 2 := by have := lc_t_gt hc20; simpa using this
                  exfalso; omega
                · skip
                  have q20 : (w).toInt ≤ 2 := by have := lc_f_gt hc20; simpa using this
                  show mm_Wp _ _ _ 13 _ _ _ _
                  refine wp_s (i := .iconst 1) (n := 1) (pc' := 14) (st' := [.int 1]) rfl rfl ?_
                  refine wp_s (i := .goto 4) (n := 3) (pc' := 18) (st' := [.int 1]) rfl rfl ?_
                  refine wp_r (i := .ireturn) (n := 1) (v := some (.int 1)) rfl rfl ?_
                  show mm_Wp X 12 mm_r189 21 [some (.ref 114), some (.int 1), some (.int w), some (.int u), some (.int z), none, none, none] [.int 1] _ _
                  refine wp_s (i := .ifCond .eq 16) (n := 3) (pc' := 24) (st' := []) rfl rfl ?_
                  refine wp_s (i := .iload 4) (n := 2) (pc' := 26) (st' := [.int z]) rfl rfl ?_
                  refine wp_s (i := .i2l) (n := 1) (pc' := 27) (st' := [.long ((z).toInt64)]) rfl rfl ?_
                  refine wp_s (i := .lconst 0) (n := 1) (pc' := 28) (st' := [.long 0, .long ((z).toInt64)]) rfl rfl ?_
                  refine wp_s (i := .ldc2_w 277) (n := 3) (pc' := 31) (st' := [.long 12, .long 0, .long ((z).toInt64)]) rfl rfl ?_
                  refine wp_c (i := .invokestatic 81) (n := 3) (Dq := 11) (r' := mm_r120) (as := [.long ((z).toInt64), .long 0, .long 12]) (rest := []) (ls' := [some (.long ((z).toInt64)), none, some (.long 0), none, some (.long 12), none]) rfl rfl rfl ?_
                  refine wp_s (i := .lload_n 0) (n := 1) (pc' := 1) (st' := [.long ((z).toInt64)]) rfl rfl ?_
                  refine wp_s (i := .lload_n 2) (n := 1) (pc' := 2) (st' := [.long 0, .long ((z).toInt64)]) rfl rfl ?_
                  refine wp_s (i := .lcmp) (n := 1) (pc' := 3) (st' := [.int (lg_cmp ((z).toInt64) 0)]) rfl rfl ?_
                  refine wp_if (t := 17) (st := []) rfl rfl (fun hc21 => ?_) (fun hc21 => ?_)
                  · skip
                    have q21 : (z).toInt < 0 := by have := lc_t_lt hc21; simpa using this
                    exfalso; omega
                  · skip
                    have q21 : (z).toInt ≥ 0 := by have := lc_f_lt hc21; simpa using this
                    show mm_Wp _ _ _ 6 _ _ _ _
                    refine wp_s (i := .lload_n 0) (n := 1) (pc' := 7) (st' := [.long ((z).toInt64)]) rfl rfl ?_
                    refine wp_s (i := .lload 4) (n := 2) (pc' := 9) (st' := [.long 12, .long ((z).toInt64)]) rfl rfl ?_
                    refine wp_s (i := .lcmp) (n := 1) (pc' := 10) (st' := [.int (lg_cmp ((z).toInt64) 12)]) rfl rfl ?_
                    refine wp_if (t := 17) (st := []) rfl rfl (fun hc22 => ?_) (fun hc22 => ?_)
                    · skip
                      have q22 : (z).toInt > 12 := by have := lc_t_gt hc22; simpa using this
                      exfalso; omega
                    · skip
                      have q22 : (z).toInt ≤ 12 := by have := lc_f_gt hc22; simpa using this
                      show mm_Wp _ _ _ 13 _ _ _ _
                      refine wp_s (i := .iconst 1) (n := 1) (pc' := 14) (st' := [.int 1]) rfl rfl ?_
                      refine wp_s (i := .goto 4) (n := 3) (pc' := 18) (st' := [.int 1]) rfl rfl ?_
                      refine wp_r (i := .ireturn) (n := 1) (v := some (.int 1)) rfl rfl ?_
                      show mm_Wp X 12 mm_r189 34 [some (.ref 114), some (.int 1), some (.int w), some (.int u), some (.int z), none, none, none] [.int 1] _ _
                      refine wp_s (i := .ifCond .ne 5) (n := 3) (pc' := 39) (st' := []) rfl rfl ?_
                      refine wp_s (i := .iconst 0) (n := 1) (pc' := 40) (st' := [.int 0]) rfl rfl ?_
                      refine wp_s (i := .istore 5) (n := 2) (pc' := 42) (ls' := [some (.ref 114), some (.int 1), some (.int w), some (.int u), some (.int z), some (.int 0), none, none]) (st' := []) rfl rfl ?_
                      refine wp_s (i := .iconst 0) (n := 1) (pc' := 43) (st' := [.int 0]) rfl rfl ?_
                      refine wp_s (i := .istore 6) (n := 2) (pc' := 45) (ls' := [some (.ref 114), some (.int 1), some (.int w), some (.int u), some (.int z), some (.int 0), some (.int 0), none]) (st' := []) rfl rfl ?_
                      refine wp_s (i := .iload 6) (n := 2) (pc' := 47) (st' := [.int 0]) rfl rfl ?_
                      refine wp_s (i := .iload 4) (n := 2) (pc' := 49) (st' := [.int z, .int 0]) rfl rfl ?_
                      refine wp_ic (t := 169) (st := []) rfl rfl (fun hc23 => ?_) (fun hc23 => ?_)
                      · skip
                        show mm_Wp _ _ _ 169 _ _ _ _
                        refine wp_s (i := .iconst 0) (n := 1) (pc' := 170) (st' := [.int 0]) rfl rfl ?_
                        refine wp_s (i := .istore 7) (n := 2) (pc' := 172) (ls' := [some (.ref 114), some (.int 1), some (.int w), some (.int u), some (.int z), some (.int 0), some (.int 0), some (.int 0)]) (st' := []) rfl rfl ?_
                        refine wp_s (i := .iload 7) (n := 2) (pc' := 174) (st' := [.int 0]) rfl rfl ?_
                        refine wp_s (i := .iload 6) (n := 2) (pc' := 176) (st' := [.int 0, .int 0]) rfl rfl ?_
                        refine wp_s (i := .if_icmp .ge 29) (n := 3) (pc' := 205) (st' := []) rfl rfl ?_
                        refine wp_s (i := .aload_n 0) (n := 1) (pc' := 206) (st' := [.ref 114]) rfl rfl ?_
                        refine wp_s (i := .iload 5) (n := 2) (pc' := 208) (st' := [.int 0, .ref 114]) rfl rfl ?_
                        refine wp_pf (idx := 287) (a := 114) (fs' := [.ref 115, .int 0, .int 0, .int 0, .int 0, .int 0, .int 0, .ref 116, .ref 117, .ref 118, .ref 119, .ref 120, .ref 121, .ref 122, .ref 123, .ref 124, .ref 125, .int 0, .int 0, .int 0, .int 0, .ref 126, .int 0, .int 0, .int 0, .int 0, .int 0, .int 0, .int 0, .int 0, .ref 127, .ref 128, .ref 129, .ref 130, .int 0, .ref 131, .ref 132, .int 0, .int 0, .int 0, .int 0, .ref 133, .ref 134, .ref 135, .ref 136, .int 0]) (pc' := 211) rfl rfl rfl (mm_sn rfl hb_114) rfl rfl rfl rfl rfl ?_
                        refine wp_s (i := .iload 6) (n := 2) (pc' := 213) (st' := [.int 0]) rfl rfl ?_
                        refine wp_r (i := .ireturn) (n := 1) (v := some (.int 0)) rfl rfl ?_
                        exact ⟨rfl, (pk_okS (pk_okS pk_ok0 hb_0 rfl) (mm_sn rfl hb_114) rfl)⟩
                      · skip
                        show mm_Wp _ _ _ 52 _ _ _ _
                        refine wp_s (i := .iload 5) (n := 2) (pc' := 54) (st' := [.int 0]) rfl rfl ?_
                        refine wp_s (i := .ifCond .ne 115) (n := 3) (pc' := 57) (st' := []) rfl rfl ?_
                        refine wp_s (i := .aload_n 0) (n := 1) (pc' := 58) (st' := [.ref 114]) rfl rfl ?_
                        refine wp_gf (idx := 68) (a := 114) (v := .ref 134) (pc' := 61) rfl rfl (mm_sn rfl hb_114) rfl rfl ?_
                        refine wp_s (i := .iload_n 1) (n := 1) (pc' := 62) (st' := [.int 1, .ref 134]) rfl rfl ?_
                        refine wp_ia (x := (-4)) (pc' := 63) rfl (mm_sn rfl hb_134) rfl rfl rfl ?_
                        refine wp_s (i := .bipush (-4)) (n := 2) (pc' := 65) (st' := [.int (-4), .int (-4)]) rfl rfl ?_
                        refine wp_s (i := .if_icmp .ne 7) (n := 3) (pc' := 68) (st' := []) rfl rfl ?_
                        refine wp_s (i := .iconst 1) (n := 1) (pc' := 69) (st' := [.int 1]) rfl rfl ?_
                        refine wp_s (i := .goto 44) (n := 3) (pc' := 113) (st' := [.int 1]) rfl rfl ?_
                        refine wp_s (i := .istore 5) (n := 2) (pc' := 115) (ls' := [some (.ref 114), some (.int 1), some (.int w), some (.int u), some (.int z), some (.int 1), some (.int 0), none]) (st' := []) rfl rfl ?_
                        refine wp_s (i := .iload 5) (n := 2) (pc' := 117) (st' := [.int 1]) rfl rfl ?_
                        refine wp_s (i := .ifCond .ne 34) (n := 3) (pc' := 151) (st' := []) rfl rfl ?_
                        refine wp_s (i := .iload 6) (n := 2) (pc' := 153) (st' := [.int 0]) rfl rfl ?_
                        refine wp_s (i := .iload 5) (n := 2) (pc' := 155) (st' := [.int 1, .int 0]) rfl rfl ?_
                        refine wp_s (i := .ifCond .ne 7) (n := 3) (pc' := 162) (st' := [.int 0]) rfl rfl ?_
                        refine wp_s (i := .iconst 0) (n := 1) (pc' := 163) (st' := [.int 0, .int 0]) rfl rfl ?_
                        refine wp_s (i := .iadd) (n := 1) (pc' := 164) (st' := [.int 0]) rfl rfl ?_
                        refine wp_s (i := .istore 6) (n := 2) (pc' := 166) (ls' := [some (.ref 114), some (.int 1), some (.int w), some (.int u), some (.int z), some (.int 1), some (.int 0), none]) (st' := []) rfl rfl ?_
                        refine wp_s (i := .goto (-121)) (n := 3) (pc' := 45) (st' := []) rfl rfl ?_
                        refine wp_s (i := .iload 6) (n := 2) (pc' := 47) (st' := [.int 0]) rfl rfl ?_
                        refine wp_s (i := .iload 4) (n := 2) (pc' := 49) (st' := [.int z, .int 0]) rfl rfl ?_
                        refine wp_ic (t := 169) (st := []) rfl rfl (fun hc24 => ?_) (fun hc24 => ?_)
                        · skip
                          show mm_Wp _ _ _ 169 _ _ _ _
                          refine wp_s (i := .iconst 0) (n := 1) (pc' := 170) (st' := [.int 0]) rfl rfl ?_
                          refine wp_s (i := .istore 7) (n := 2) (pc' := 172) (ls' := [some (.ref 114), some (.int 1), some (.int w), some (.int u), some (.int z), some (.int 1), some (.int 0), some (.int 0)]) (st' := []) rfl rfl ?_
                          refine wp_s (i := .iload 7) (n := 2) (pc' := 174) (st' := [.int 0]) rfl rfl ?_
                          refine wp_s (i := .iload 6) (n := 2) (pc' := 176) (st' := [.int 0, .int 0]) rfl rfl ?_
                          refine wp_s (i := .if_icmp .ge 29) (n := 3) (pc' := 205) (st' := []) rfl rfl ?_
                          refine wp_s (i := .aload_n 0) (n := 1) (pc' := 206) (st' := [.ref 114]) rfl rfl ?_
                          refine wp_s (i := .iload 5) (n := 2) (pc' := 208) (st' := [.int 1, .ref 114]) rfl rfl ?_
                          refine wp_pf (idx := 287) (a := 114) (fs' := [.ref 115, .int 0, .int 0, .int 0, .int 0, .int 0, .int 0, .ref 116, .ref 117, .ref 118, .ref 119, .ref 120, .ref 121, .ref 122, .ref 123, .ref 124, .ref 125, .int 0, .int 0, .int 0, .int 0, .ref 126, .int 0, .int 0, .int 0, .int 0, .int 0, .int 0, .int 0, .int 0, .ref 127, .ref 128, .ref 129, .ref 130, .int 0, .ref 131, .ref 132, .int 0, .int 0, .int 0, .int 0, .ref 133, .ref 134, .ref 135, .ref 136, .int 1]) (pc' := 211) rfl rfl rfl (mm_sn rfl hb_114) rfl rfl rfl rfl rfl ?_
                          refine wp_s (i := .iload 6) (n := 2) (pc' := 213) (st' := [.int 0]) rfl rfl ?_
                          refine wp_r (i := .ireturn) (n := 1) (v := some (.int 0)) rfl rfl ?_
                          exact ⟨rfl, (pk_okS (pk_okS pk_ok0 hb_0 rfl) (mm_sn rfl hb_114) rfl)⟩
                        · skip
                          show mm_Wp _ _ _ 52 _ _ _ _
                          refine wp_s (i := .iload 5) (n := 2) (pc' := 54) (st' := [.int 1]) rfl rfl ?_
                          refine wp_s (i := .ifCond .ne 115) (n := 3) (pc' := 169) (st' := []) rfl rfl ?_
                          refine wp_s (i := .iconst 0) (n := 1) (pc' := 170) (st' := [.int 0]) rfl rfl ?_
                          refine wp_s (i := .istore 7) (n := 2) (pc' := 172) (ls' := [some (.ref 114), some (.int 1), some (.int w), some (.int u), some (.int z), some (.int 1), some (.int 0), some (.int 0)]) (st' := []) rfl rfl ?_
                          refine wp_s (i := .iload 7) (n := 2) (pc' := 174) (st' := [.int 0]) rfl rfl ?_
                          refine wp_s (i := .iload 6) (n := 2) (pc' := 176) (st' := [.int 0, .int 0]) rfl rfl ?_
                          refine wp_s (i := .if_icmp .ge 29) (n := 3) (pc' := 205) (st' := []) rfl rfl ?_
                          refine wp_s (i := .aload_n 0) (n := 1) (pc' := 206) (st' := [.ref 114]) rfl rfl ?_
                          refine wp_s (i := .iload 5) (n := 2) (pc' := 208) (st' := [.int 1, .ref 114]) rfl rfl ?_
                          refine wp_pf (idx := 287) (a := 114) (fs' := [.ref 115, .int 0, .int 0, .int 0, .int 0, .int 0, .int 0, .ref 116, .ref 117, .ref 118, .ref 119, .ref 120, .ref 121, .ref 122, .ref 123, .ref 124, .ref 125, .int 0, .int 0, .int 0, .int 0, .ref 126, .int 0, .int 0, .int 0, .int 0, .int 0, .int 0, .int 0, .int 0, .ref 127, .ref 128, .ref 129, .ref 130, .int 0, .ref 131, .ref 132, .int 0, .int 0, .int 0, .int 0, .ref 133, .ref 134, .ref 135, .ref 136, .int 1]) (pc' := 211) rfl rfl rfl (mm_sn rfl hb_114) rfl rfl rfl rfl rfl ?_
                          refine wp_s (i := .iload 6) (n := 2) (pc' := 213) (st' := [.int 0]) rfl rfl ?_
                          refine wp_r (i := .ireturn) (n := 1) (v := some (.int 0)) rfl rfl ?_
                          exact ⟨rfl, (pk_okS (pk_okS pk_ok0 hb_0 rfl) (mm_sn rfl hb_114) rfl)⟩
            · skip
              show mm_Wp _ _ _ 49 _ _ _ _
              refine wp_s (i := .iload 7) (n := 2) (pc' := 51) (st' := [.int 1]) rfl rfl ?_
              refine wp_s (i := .ifCond .ne 48) (n := 3) (pc' := 99) (st' := []) rfl rfl ?_
              refine wp_s (i := .iconst 0) (n := 1) (pc' := 100) (st' := [.int 0]) rfl rfl ?_
              refine wp_s (i := .istore 8) (n := 2) (pc' := 102) (ls' := [some (.ref 0), some (.int 1), some (.int w), some (.int u), some (.int z), some (.ref 108), some (.int 0), some (.int 1), some (.int 0)]) (st' := []) rfl rfl ?_
              refine wp_s (i := .iload 8) (n := 2) (pc' := 104) (st' := [.int 0]) rfl rfl ?_
              refine wp_s (i := .iload 6) (n := 2) (pc' := 106) (st' := [.int 0, .int 0]) rfl rfl ?_
              refine wp_s (i := .if_icmp .ge 35) (n := 3) (pc' := 141) (st' := []) rfl rfl ?_
              refine wp_s (i := .aload_n 0) (n := 1) (pc' := 142) (st' := [.ref 0]) rfl rfl ?_
              refine wp_s (i := .iload 7) (n := 2) (pc' := 144) (st' := [.int 1, .ref 0]) rfl rfl ?_
              refine wp_pf (idx := 323) (a := 0) (fs' := [.ref 1, .ref 2, .ref 25, .ref 36, .ref 46, .ref 54, .ref 65, .ref 66, .ref 67, .int 0, .int 1]) (pc' := 147) rfl rfl rfl hb_0 rfl rfl rfl rfl rfl ?_
              refine wp_s (i := .iload 6) (n := 2) (pc' := 149) (st' := [.int 0]) rfl rfl ?_
              refine wp_r (i := .ireturn) (n := 1) (v := some (.int 0)) rfl rfl ?_
              refine ⟨0, rfl, ⟨_, (mm_sn rfl hb_114)⟩, ?_⟩
              show mm_Wp X 12 mm_r189 0 [some (.ref 114), some (.int 1), some (.int w), some (.int u), some (.int z), none, none, none] [] _ _
              refine wp_s (i := .iload_n 1) (n := 1) (pc' := 1) (st' := [.int 1]) rfl rfl ?_
              refine wp_s (i := .i2l) (n := 1) (pc' := 2) (st' := [.long 1]) rfl rfl ?_
              refine wp_s (i := .lconst 0) (n := 1) (pc' := 3) (st' := [.long 0, .long 1]) rfl rfl ?_
              refine wp_s (i := .ldc2_w 285) (n := 3) (pc' := 6) (st' := [.long 3, .long 0, .long 1]) rfl rfl ?_
              refine wp_c (i := .invokestatic 81) (n := 3) (Dq := 11) (r' := mm_r120) (as := [.long 1, .long 0, .long 3]) (rest := []) (ls' := [some (.long 1), none, some (.long 0), none, some (.long 3), none]) rfl rfl rfl ?_
              refine wp_x 16 (v := some (.int 1)) (h' := hp_0.set 0 (.inr (9, [.ref 1, .ref 2, .ref 25, .ref 36, .ref 46, .ref 54, .ref 65, .ref 66, .ref 67, .int 0, .int 1]))) (mm_dec (by decide +kernel)) ?_
              show mm_Wp X 12 mm_r189 9 [some (.ref 114), some (.int 1), some (.int w), some (.int u), some (.int z), none, none, none] [.int 1] _ _
              refine wp_s (i := .ifCond .eq 28) (n := 3) (pc' := 12) (st' := []) rfl rfl ?_
              refine wp_s (i := .iload_n 2) (n := 1) (pc' := 13) (st' := [.int w]) rfl rfl ?_
              refine wp_s (i := .i2l) (n := 1) (pc' := 14) (st' := [.long ((w).toInt64)]) rfl rfl ?_
              refine wp_s (i := .lconst 0) (n := 1) (pc' := 15) (st' := [.long 0, .long ((w).toInt64)]) rfl rfl ?_
              refine wp_s (i := .ldc2_w 198) (n := 3) (pc' := 18) (st' := [.long 2, .long 0, .long ((w).toInt64)]) rfl rfl ?_
              refine wp_c (i := .invokestatic 81) (n := 3) (Dq := 11) (r' := mm_r120) (as := [.long ((w).toInt64), .long 0, .long 2]) (rest := []) (ls' := [some (.long ((w).toInt64)), none, some (.long 0), none, some (.long 2), none]) rfl rfl rfl ?_
              refine wp_s (i := .lload_n 0) (n := 1) (pc' := 1) (st' := [.long ((w).toInt64)]) rfl rfl ?_
              refine wp_s (i := .lload_n 2) (n := 1) (pc' := 2) (st' := [.long 0, .long ((w).toInt64)]) rfl rfl ?_
              refine wp_s (i := .lcmp) (n := 1) (pc' := 3) (st' := [.int (lg_cmp ((w).toInt64) 0)]) rfl rfl ?_
              refine wp_if (t := 17) (st := []) rfl rfl (fun hc25 => ?_) (fun hc25 => ?_)
              · skip
                have q25 : (w).toInt < 0 := by have := lc_t_lt hc25; simpa using this
                exfalso; omega
              · skip
                have q25 : (w).toInt ≥ 0 := by have := lc_f_lt hc25; simpa using this
                show mm_Wp _ _ _ 6 _ _ _ _
                refine wp_s (i := .lload_n 0) (n := 1) (pc' := 7) (st' := [.long ((w).toInt64)]) rfl rfl ?_
                refine wp_s (i := .lload 4) (n := 2) (pc' := 9) (st' := [.long 2, .long ((w).toInt64)]) rfl rfl ?_
                refine wp_s (i := .lcmp) (n := 1) (pc' := 10) (st' := [.int (lg_cmp ((w).toInt64) 2)]) rfl rfl ?_
                refine wp_if (t := 17) (st := []) rfl rfl (fun hc26 => ?_) (fun hc26 => ?_)
                · skip
                  have q26 : (w).toInt > 2 := by have := lc_t_gt hc26; simpa using this
                  exfalso; omega
                · skip
                  have q26 : (w).toInt ≤ 2 := by have := lc_f_gt hc26; simpa using this
                  show mm_Wp _ _ _ 13 _ _ _ _
                  refine wp_s (i := .iconst 1) (n := 1) (pc' := 14) (st' := [.int 1]) rfl rfl ?_
                  refine wp_s (i := .goto 4) (n := 3) (pc' := 18) (st' := [.int 1]) rfl rfl ?_
                  refine wp_r (i := .ireturn) (n := 1) (v := some (.int 1)) rfl rfl ?_
                  show mm_Wp X 12 mm_r189 21 [some (.ref 114), some (.int 1), some (.int w), some (.int u), some (.int z), none, none, none] [.int 1] _ _
                  refine wp_s (i := .ifCond .eq 16) (n := 3) (pc' := 24) (st' := []) rfl rfl ?_
                  refine wp_s (i := .iload 4) (n := 2) (pc' := 26) (st' := [.int z]) rfl rfl ?_
                  refine wp_s (i := .i2l) (n := 1) (pc' := 27) (st' := [.long ((z).toInt64)]) rfl rfl ?_
                  refine wp_s (i := .lconst 0) (n := 1) (pc' := 28) (st' := [.long 0, .long ((z).toInt64)]) rfl rfl ?_
                  refine wp_s (i := .ldc2_w 277) (n := 3) (pc' := 31) (st' := [.long 12, .long 0, .long ((z).toInt64)]) rfl rfl ?_
                  refine wp_c (i := .invokestatic 81) (n := 3) (Dq := 11) (r' := mm_r120) (as := [.long ((z).toInt64), .long 0, .long 12]) (rest := []) (ls' := [some (.long ((z).toInt64)), none, some (.long 0), none, some (.long 12), none]) rfl rfl rfl ?_
                  refine wp_s (i := .lload_n 0) (n := 1) (pc' := 1) (st' := [.long ((z).toInt64)]) rfl rfl ?_
                  refine wp_s (i := .lload_n 2) (n := 1) (pc' := 2) (st' := [.long 0, .long ((z).toInt64)]) rfl rfl ?_
                  refine wp_s (i := .lcmp) (n := 1) (pc' := 3) (st' := [.int (lg_cmp ((z).toInt64) 0)]) rfl rfl ?_
                  refine wp_if (t := 17) (st := []) rfl rfl (fun hc27 => ?_) (fun hc27 => ?_)
                  · skip
                    have q27 : (z).toInt < 0 := by have := lc_t_lt hc27; simpa using this
                    exfalso; omega
                  · skip
                    have q27 : (z).toInt ≥ 0 := by have := lc_f_lt hc27; simpa using this
                    show mm_Wp _ _ _ 6 _ _ _ _
                    refine wp_s (i := .lload_n 0) (n := 1) (pc' := 7) (st' := [.long ((z).toInt64)]) rfl rfl ?_
                    refine wp_s (i := .lload 4) (n := 2) (pc' := 9) (st' := [.long 12, .long ((z).toInt64)]) rfl rfl ?_
                    refine wp_s (i := .lcmp) (n := 1) (pc' := 10) (st' := [.int (lg_cmp ((z).toInt64) 12)]) rfl rfl ?_
                    refine wp_if (t := 17) (st := []) rfl rfl (fun hc28 => ?_) (fun hc28 => ?_)
                    · skip
                      have q28 : (z).toInt > 12 := by have := lc_t_gt hc28; simpa using this
                      exfalso; omega
                    · skip
                      have q28 : (z).toInt ≤ 12 := by have := lc_f_gt hc28; simpa using this
                      show mm_Wp _ _ _ 13 _ _ _ _
                      refine wp_s (i := .iconst 1) (n := 1) (pc' := 14) (st' := [.int 1]) rfl rfl ?_
                      refine wp_s (i := .goto 4) (n := 3) (pc' := 18) (st' := [.int 1]) rfl rfl ?_
                      refine wp_r (i := .ireturn) (n := 1) (v := some (.int 1)) rfl rfl ?_
                      show mm_Wp X 12 mm_r189 34 [some (.ref 114), some (.int 1), some (.int w), some (.int u), some (.int z), none, none, none] [.int 1] _ _
                      refine wp_s (i := .ifCond .ne 5) (n := 3) (pc' := 39) (st' := []) rfl rfl ?_
                      refine wp_s (i := .iconst 0) (n := 1) (pc' := 40) (st' := [.int 0]) rfl rfl ?_
                      refine wp_s (i := .istore 5) (n := 2) (pc' := 42) (ls' := [some (.ref 114), some (.int 1), some (.int w), some (.int u), some (.int z), some (.int 0), none, none]) (st' := []) rfl rfl ?_
                      refine wp_s (i := .iconst 0) (n := 1) (pc' := 43) (st' := [.int 0]) rfl rfl ?_
                      refine wp_s (i := .istore 6) (n := 2) (pc' := 45) (ls' := [some (.ref 114), some (.int 1), some (.int w), some (.int u), some (.int z), some (.int 0), some (.int 0), none]) (st' := []) rfl rfl ?_
                      refine wp_s (i := .iload 6) (n := 2) (pc' := 47) (st' := [.int 0]) rfl rfl ?_
                      refine wp_s (i := .iload 4) (n := 2) (pc' := 49) (st' := [.int z, .int 0]) rfl rfl ?_
                      refine wp_ic (t := 169) (st := []) rfl rfl (fun hc29 => ?_) (fun hc29 => ?_)
                      · skip
                        show mm_Wp _ _ _ 169 _ _ _ _
                        refine wp_s (i := .iconst 0) (n := 1) (pc' := 170) (st' := [.int 0]) rfl rfl ?_
                        refine wp_s (i := .istore 7) (n := 2) (pc' := 172) (ls' := [some (.ref 114), some (.int 1), some (.int w), some (.int u), some (.int z), some (.int 0), some (.int 0), some (.int 0)]) (st' := []) rfl rfl ?_
                        refine wp_s (i := .iload 7) (n := 2) (pc' := 174) (st' := [.int 0]) rfl rfl ?_
                        refine wp_s (i := .iload 6) (n := 2) (pc' := 176) (st' := [.int 0, .int 0]) rfl rfl ?_
                        refine wp_s (i := .if_icmp .ge 29) (n := 3) (pc' := 205) (st' := []) rfl rfl ?_
                        refine wp_s (i := .aload_n 0) (n := 1) (pc' := 206) (st' := [.ref 114]) rfl rfl ?_
                        refine wp_s (i := .iload 5) (n := 2) (pc' := 208) (st' := [.int 0, .ref 114]) rfl rfl ?_
                        refine wp_pf (idx := 287) (a := 114) (fs' := [.ref 115, .int 0, .int 0, .int 0, .int 0, .int 0, .int 0, .ref 116, .ref 117, .ref 118, .ref 119, .ref 120, .ref 121, .ref 122, .ref 123, .ref 124, .ref 125, .int 0, .int 0, .int 0, .int 0, .ref 126, .int 0, .int 0, .int 0, .int 0, .int 0, .int 0, .int 0, .int 0, .ref 127, .ref 128, .ref 129, .ref 130, .int 0, .ref 131, .ref 132, .int 0, .int 0, .int 0, .int 0, .ref 133, .ref 134, .ref 135, .ref 136, .int 0]) (pc' := 211) rfl rfl rfl (mm_sn rfl hb_114) rfl rfl rfl rfl rfl ?_
                        refine wp_s (i := .iload 6) (n := 2) (pc' := 213) (st' := [.int 0]) rfl rfl ?_
                        refine wp_r (i := .ireturn) (n := 1) (v := some (.int 0)) rfl rfl ?_
                        exact ⟨rfl, (pk_okS (pk_okS pk_ok0 hb_0 rfl) (mm_sn rfl hb_114) rfl)⟩
                      · skip
                        show mm_Wp _ _ _ 52 _ _ _ _
                        refine wp_s (i := .iload 5) (n := 2) (pc' := 54) (st' := [.int 0]) rfl rfl ?_
                        refine wp_s (i := .ifCond .ne 115) (n := 3) (pc' := 57) (st' := []) rfl rfl ?_
                        refine wp_s (i := .aload_n 0) (n := 1) (pc' := 58) (st' := [.ref 114]) rfl rfl ?_
                        refine wp_gf (idx := 68) (a := 114) (v := .ref 134) (pc' := 61) rfl rfl (mm_sn rfl hb_114) rfl rfl ?_
                        refine wp_s (i := .iload_n 1) (n := 1) (pc' := 62) (st' := [.int 1, .ref 134]) rfl rfl ?_
                        refine wp_ia (x := (-4)) (pc' := 63) rfl (mm_sn rfl hb_134) rfl rfl rfl ?_
                        refine wp_s (i := .bipush (-4)) (n := 2) (pc' := 65) (st' := [.int (-4), .int (-4)]) rfl rfl ?_
                        refine wp_s (i := .if_icmp .ne 7) (n := 3) (pc' := 68) (st' := []) rfl rfl ?_
                        refine wp_s (i := .iconst 1) (n := 1) (pc' := 69) (st' := [.int 1]) rfl rfl ?_
                        refine wp_s (i := .goto 44) (n := 3) (pc' := 113) (st' := [.int 1]) rfl rfl ?_
                        refine wp_s (i := .istore 5) (n := 2) (pc' := 115) (ls' := [some (.ref 114), some (.int 1), some (.int w), some (.int u), some (.int z), some (.int 1), some (.int 0), none]) (st' := []) rfl rfl ?_
                        refine wp_s (i := .iload 5) (n := 2) (pc' := 117) (st' := [.int 1]) rfl rfl ?_
                        refine wp_s (i := .ifCond .ne 34) (n := 3) (pc' := 151) (st' := []) rfl rfl ?_
                        refine wp_s (i := .iload 6) (n := 2) (pc' := 153) (st' := [.int 0]) rfl rfl ?_
                        refine wp_s (i := .iload 5) (n := 2) (pc' := 155) (st' := [.int 1, .int 0]) rfl rfl ?_
                        refine wp_s (i := .ifCond .ne 7) (n := 3) (pc' := 162) (st' := [.int 0]) rfl rfl ?_
                        refine wp_s (i := .iconst 0) (n := 1) (pc' := 163) (st' := [.int 0, .int 0]) rfl rfl ?_
                        refine wp_s (i := .iadd) (n := 1) (pc' := 164) (st' := [.int 0]) rfl rfl ?_
                        refine wp_s (i := .istore 6) (n := 2) (pc' := 166) (ls' := [some (.ref 114), some (.int 1), some (.int w), some (.int u), some (.int z), some (.int 1), some (.int 0), none]) (st' := []) rfl rfl ?_
                        refine wp_s (i := .goto (-121)) (n := 3) (pc' := 45) (st' := []) rfl rfl ?_
                        refine wp_s (i := .iload 6) (n := 2) (pc' := 47) (st' := [.int 0]) rfl rfl ?_
                        refine wp_s (i := .iload 4) (n := 2) (pc' := 49) (st' := [.int z, .int 0]) rfl rfl ?_
                        refine wp_ic (t := 169) (st := []) rfl rfl (fun hc30 => ?_) (fun hc30 => ?_)
                        · skip
                          show mm_Wp _ _ _ 169 _ _ _ _
                          refine wp_s (i := .iconst 0) (n := 1) (pc' := 170) (st' := [.int 0]) rfl rfl ?_
                          refine wp_s (i := .istore 7) (n := 2) (pc' := 172) (ls' := [some (.ref 114), some (.int 1), some (.int w), some (.int u), some (.int z), some (.int 1), some (.int 0), some (.int 0)]) (st' := []) rfl rfl ?_
                          refine wp_s (i := .iload 7) (n := 2) (pc' := 174) (st' := [.int 0]) rfl rfl ?_
                          refine wp_s (i := .iload 6) (n := 2) (pc' := 176) (st' := [.int 0, .int 0]) rfl rfl ?_
                          refine wp_s (i := .if_icmp .ge 29) (n := 3) (pc' := 205) (st' := []) rfl rfl ?_
                          refine wp_s (i := .aload_n 0) (n := 1) (pc' := 206) (st' := [.ref 114]) rfl rfl ?_
                          refine wp_s (i := .iload 5) (n := 2) (pc' := 208) (st' := [.int 1, .ref 114]) rfl rfl ?_
                          refine wp_pf (idx := 287) (a := 114) (fs' := [.ref 115, .int 0, .int 0, .int 0, .int 0, .int 0, .int 0, .ref 116, .ref 117, .ref 118, .ref 119, .ref 120, .ref 121, .ref 122, .ref 123, .ref 124, .ref 125, .int 0, .int 0, .int 0, .int 0, .ref 126, .int 0, .int 0, .int 0, .int 0, .int 0, .int 0, .int 0, .int 0, .ref 127, .ref 128, .ref 129, .ref 130, .int 0, .ref 131, .ref 132, .int 0, .int 0, .int 0, .int 0, .ref 133, .ref 134, .ref 135, .ref 136, .int 1]) (pc' := 211) rfl rfl rfl (mm_sn rfl hb_114) rfl rfl rfl rfl rfl ?_
                          refine wp_s (i := .iload 6) (n := 2) (pc' := 213) (st' := [.int 0]) rfl rfl ?_
                          refine wp_r (i := .ireturn) (n := 1) (v := some (.int 0)) rfl rfl ?_
                          exact ⟨rfl, (pk_okS (pk_okS pk_ok0 hb_0 rfl) (mm_sn rfl hb_114) rfl)⟩
                        · skip
                          show mm_Wp _ _ _ 52 _ _ _ _
                          refine wp_s (i := .iload 5) (n := 2) (pc' := 54) (st' := [.int 1]) rfl rfl ?_
                          refine wp_s (i := .ifCond .ne 115) (n := 3) (pc' := 169) (st' := []) rfl rfl ?_
                          refine wp_s (i := .iconst 0) (n := 1) (pc' := 170) (st' := [.int 0]) rfl rfl ?_
                          refine wp_s (i := .istore 7) (n := 2) (pc' := 172) (ls' := [some (.ref 114), some (.int 1), some (.int w), some (.int u), some (.int z), some (.int 1), some (.int 0), some (.int 0)]) (st' := []) rfl rfl ?_
                          refine wp_s (i := .iload 7) (n := 2) (pc' := 174) (st' := [.int 0]) rfl rfl ?_
                          refine wp_s (i := .iload 6) (n := 2) (pc' := 176) (st' := [.int 0, .int 0]) rfl rfl ?_
                          refine wp_s (i := .if_icmp .ge 29) (n := 3) (pc' := 205) (st' := []) rfl rfl ?_
                          refine wp_s (i := .aload_n 0) (n := 1) (pc' := 206) (st' := [.ref 114]) rfl rfl ?_
                          refine wp_s (i := .iload 5) (n := 2) (pc' := 208) (st' := [.int 1, .ref 114]) rfl rfl ?_
                          refine wp_pf (idx := 287) (a := 114) (fs' := [.ref 115, .int 0, .int 0, .int 0, .int 0, .int 0, .int 0, .ref 116, .ref 117, .ref 118, .ref 119, .ref 120, .ref 121, .ref 122, .ref 123, .ref 124, .ref 125, .int 0, .int 0, .int 0, .int 0, .ref 126, .int 0, .int 0, .int 0, .int 0, .int 0, .int 0, .int 0, .int 0, .ref 127, .ref 128, .ref 129, .ref 130, .int 0, .ref 131, .ref 132, .int 0, .int 0, .int 0, .int 0, .ref 133, .ref 134, .ref 135, .ref 136, .int 1]) (pc' := 211) rfl rfl rfl (mm_sn rfl hb_114) rfl rfl rfl rfl rfl ?_
                          refine wp_s (i := .iload 6) (n := 2) (pc' := 213) (st' := [.int 0]) rfl rfl ?_
                          refine wp_r (i := .ireturn) (n := 1) (v := some (.int 0)) rfl rfl ?_
                          exact ⟨rfl, (pk_okS (pk_okS pk_ok0 hb_0 rfl) (mm_sn rfl hb_114) rfl)⟩
        · skip
          have q10 : (z).toInt > 12 := by have := mc_f_le hc10; simpa using this
          show mm_Wp _ _ _ 26 _ _ _ _
          refine wp_s (i := .iconst (-1)) (n := 1) (pc' := 27) (st' := [.int (-1)]) rfl rfl ?_
          refine wp_r (i := .ireturn) (n := 1) (v := some (.int (-1))) rfl rfl ?_
          refine ⟨(-1), rfl, ⟨_, hb_114⟩, ?_⟩
          show mm_Wp X 12 mm_r189 0 [some (.ref 114), some (.int 1), some (.int w), some (.int u), some (.int z), none, none, none] [] _ _
          refine wp_s (i := .iload_n 1) (n := 1) (pc' := 1) (st' := [.int 1]) rfl rfl ?_
          refine wp_s (i := .i2l) (n := 1) (pc' := 2) (st' := [.long 1]) rfl rfl ?_
          refine wp_s (i := .lconst 0) (n := 1) (pc' := 3) (st' := [.long 0, .long 1]) rfl rfl ?_
          refine wp_s (i := .ldc2_w 285) (n := 3) (pc' := 6) (st' := [.long 3, .long 0, .long 1]) rfl rfl ?_
          refine wp_c (i := .invokestatic 81) (n := 3) (Dq := 11) (r' := mm_r120) (as := [.long 1, .long 0, .long 3]) (rest := []) (ls' := [some (.long 1), none, some (.long 0), none, some (.long 3), none]) rfl rfl rfl ?_
          refine wp_x 16 (v := some (.int 1)) (h' := hp_0) (mm_dec (by decide +kernel)) ?_
          show mm_Wp X 12 mm_r189 9 [some (.ref 114), some (.int 1), some (.int w), some (.int u), some (.int z), none, none, none] [.int 1] _ _
          refine wp_s (i := .ifCond .eq 28) (n := 3) (pc' := 12) (st' := []) rfl rfl ?_
          refine wp_s (i := .iload_n 2) (n := 1) (pc' := 13) (st' := [.int w]) rfl rfl ?_
          refine wp_s (i := .i2l) (n := 1) (pc' := 14) (st' := [.long ((w).toInt64)]) rfl rfl ?_
          refine wp_s (i := .lconst 0) (n := 1) (pc' := 15) (st' := [.long 0, .long ((w).toInt64)]) rfl rfl ?_
          refine wp_s (i := .ldc2_w 198) (n := 3) (pc' := 18) (st' := [.long 2, .long 0, .long ((w).toInt64)]) rfl rfl ?_
          refine wp_c (i := .invokestatic 81) (n := 3) (Dq := 11) (r' := mm_r120) (as := [.long ((w).toInt64), .long 0, .long 2]) (rest := []) (ls' := [some (.long ((w).toInt64)), none, some (.long 0), none, some (.long 2), none]) rfl rfl rfl ?_
          refine wp_s (i := .lload_n 0) (n := 1) (pc' := 1) (st' := [.long ((w).toInt64)]) rfl rfl ?_
          refine wp_s (i := .lload_n 2) (n := 1) (pc' := 2) (st' := [.long 0, .long ((w).toInt64)]) rfl rfl ?_
          refine wp_s (i := .lcmp) (n := 1) (pc' := 3) (st' := [.int (lg_cmp ((w).toInt64) 0)]) rfl rfl ?_
          refine wp_if (t := 17) (st := []) rfl rfl (fun hc31 => ?_) (fun hc31 => ?_)
          · skip
            have q31 : (w).toInt < 0 := by have := lc_t_lt hc31; simpa using this
            exfalso; omega
          · skip
            have q31 : (w).toInt ≥ 0 := by have := lc_f_lt hc31; simpa using this
            show mm_Wp _ _ _ 6 _ _ _ _
            refine wp_s (i := .lload_n 0) (n := 1) (pc' := 7) (st' := [.long ((w).toInt64)]) rfl rfl ?_
            refine wp_s (i := .lload 4) (n := 2) (pc' := 9) (st' := [.long 2, .long ((w).toInt64)]) rfl rfl ?_
            refine wp_s (i := .lcmp) (n := 1) (pc' := 10) (st' := [.int (lg_cmp ((w).toInt64) 2)]) rfl rfl ?_
            refine wp_if (t := 17) (st := []) rfl rfl (fun hc32 => ?_) (fun hc32 => ?_)
            · skip
              have q32 : (w).toInt > 2 := by have := lc_t_gt hc32; simpa using this
              exfalso; omega
            · skip
              have q32 : (w).toInt ≤ 2 := by have := lc_f_gt hc32; simpa using this
              show mm_Wp _ _ _ 13 _ _ _ _
              refine wp_s (i := .iconst 1) (n := 1) (pc' := 14) (st' := [.int 1]) rfl rfl ?_
              refine wp_s (i := .goto 4) (n := 3) (pc' := 18) (st' := [.int 1]) rfl rfl ?_
              refine wp_r (i := .ireturn) (n := 1) (v := some (.int 1)) rfl rfl ?_
              show mm_Wp X 12 mm_r189 21 [some (.ref 114), some (.int 1), some (.int w), some (.int u), some (.int z), none, none, none] [.int 1] _ _
              refine wp_s (i := .ifCond .eq 16) (n := 3) (pc' := 24) (st' := []) rfl rfl ?_
              refine wp_s (i := .iload 4) (n := 2) (pc' := 26) (st' := [.int z]) rfl rfl ?_
              refine wp_s (i := .i2l) (n := 1) (pc' := 27) (st' := [.long ((z).toInt64)]) rfl rfl ?_
              refine wp_s (i := .lconst 0) (n := 1) (pc' := 28) (st' := [.long 0, .long ((z).toInt64)]) rfl rfl ?_
              refine wp_s (i := .ldc2_w 277) (n := 3) (pc' := 31) (st' := [.long 12, .long 0, .long ((z).toInt64)]) rfl rfl ?_
              refine wp_c (i := .invokestatic 81) (n := 3) (Dq := 11) (r' := mm_r120) (as := [.long ((z).toInt64), .long 0, .long 12]) (rest := []) (ls' := [some (.long ((z).toInt64)), none, some (.long 0), none, some (.long 12), none]) rfl rfl rfl ?_
              refine wp_s (i := .lload_n 0) (n := 1) (pc' := 1) (st' := [.long ((z).toInt64)]) rfl rfl ?_
              refine wp_s (i := .lload_n 2) (n := 1) (pc' := 2) (st' := [.long 0, .long ((z).toInt64)]) rfl rfl ?_
              refine wp_s (i := .lcmp) (n := 1) (pc' := 3) (st' := [.int (lg_cmp ((z).toInt64) 0)]) rfl rfl ?_
              refine wp_if (t := 17) (st := []) rfl rfl (fun hc33 => ?_) (fun hc33 => ?_)
              · skip
                have q33 : (z).toInt < 0 := by have := lc_t_lt hc33; simpa using this
                exfalso; omega
              · skip
                have q33 : (z).toInt ≥ 0 := by have := lc_f_lt hc33; simpa using this
                show mm_Wp _ _ _ 6 _ _ _ _
                refine wp_s (i := .lload_n 0) (n := 1) (pc' := 7) (st' := [.long ((z).toInt64)]) rfl rfl ?_
                refine wp_s (i := .lload 4) (n := 2) (pc' := 9) (st' := [.long 12, .long ((z).toInt64)]) rfl rfl ?_
                refine wp_s (i := .lcmp) (n := 1) (pc' := 10) (st' := [.int (lg_cmp ((z).toInt64) 12)]) rfl rfl ?_
                refine wp_if (t := 17) (st := []) rfl rfl (fun hc34 => ?_) (fun hc34 => ?_)
                · skip
                  have q34 : (z).toInt > 12 := by have := lc_t_gt hc34; simpa using this
                  show mm_Wp _ _ _ 17 _ _ _ _
                  refine wp_s (i := .iconst 0) (n := 1) (pc' := 18) (st' := [.int 0]) rfl rfl ?_
                  refine wp_r (i := .ireturn) (n := 1) (v := some (.int 0)) rfl rfl ?_
                  show mm_Wp X 12 mm_r189 34 [some (.ref 114), some (.int 1), some (.int w), some (.int u), some (.int z), none, none, none] [.int 0] _ _
                  refine wp_s (i := .ifCond .ne 5) (n := 3) (pc' := 37) (st' := []) rfl rfl ?_
                  refine wp_s (i := .iconst (-1)) (n := 1) (pc' := 38) (st' := [.int (-1)]) rfl rfl ?_
                  refine wp_r (i := .ireturn) (n := 1) (v := some (.int (-1))) rfl rfl ?_
                  exact ⟨rfl, pk_ok0⟩
                · skip
                  have q34 : (z).toInt ≤ 12 := by have := lc_f_gt hc34; simpa using this
                  exfalso; omega
set_option maxRecDepth 20000 in
set_option maxHeartbeats 4000000 in
theorem pk_35_2 (X : Option (List Int32)) (w u z : Int32) : mm_Wp X 12 mm_r100 0 [some (.ref 0), some (.int 2), some (.int w), some (.int u), some (.int z), none, none, none, none] [] hp_0 (fun v1 h1 => ∃ x : Int32, v1 = some (.int x) ∧ (∃ fs, h1[114]? = some (.inr (10, fs))) ∧ mm_Wp X 12 mm_r189 0 [some (.ref 114), some (.int 2), some (.int w), some (.int u), some (.int z), none, none, none] [] h1 (fun v2 h2 => v2 = some (.int x) ∧ pk_ok h2)) := by
  refine wp_s (i := .iload_n 1) (n := 1) (pc' := 1) (st' := [.int 2]) rfl rfl ?_
  refine wp_c (i := .invokestatic 301) (n := 3) (Dq := 11) (r' := mm_r107) (as := [.int 2]) (rest := []) (ls' := [some (.int 2)]) rfl rfl rfl ?_
  refine wp_x 13 (v := some (.int 1)) (h' := hp_0) (mm_dec (by decide +kernel)) ?_
  show mm_Wp X 12 mm_r100 4 [some (.ref 0), some (.int 2), some (.int w), some (.int u), some (.int z), none, none, none, none] [.int 1] _ _
  refine wp_s (i := .ifCond .eq 22) (n := 3) (pc' := 7) (st' := []) rfl rfl ?_
  refine wp_s (i := .iload_n 2) (n := 1) (pc' := 8) (st' := [.int w]) rfl rfl ?_
  refine wp_c (i := .invokestatic 304) (n := 3) (Dq := 11) (r' := mm_r108) (as := [.int w]) (rest := []) (ls' := [some (.int w)]) rfl rfl rfl ?_
  refine wp_s (i := .iload_n 0) (n := 1) (pc' := 1) (st' := [.int w]) rfl rfl ?_
  refine wp_if (t := 13) (st := []) rfl rfl (fun hc1 => ?_) (fun hc1 => ?_)
  · skip
    have q1 : (w).toInt < 0 := by have := mc_t_lt hc1; simpa using this
    show mm_Wp _ _ _ 13 _ _ _ _
    refine wp_s (i := .iconst 0) (n := 1) (pc' := 14) (st' := [.int 0]) rfl rfl ?_
    refine wp_r (i := .ireturn) (n := 1) (v := some (.int 0)) rfl rfl ?_
    show mm_Wp X 12 mm_r100 11 [some (.ref 0), some (.int 2), some (.int w), some (.int u), some (.int z), none, none, none, none] [.int 0] _ _
    refine wp_s (i := .ifCond .eq 15) (n := 3) (pc' := 26) (st' := []) rfl rfl ?_
    refine wp_s (i := .iconst (-1)) (n := 1) (pc' := 27) (st' := [.int (-1)]) rfl rfl ?_
    refine wp_r (i := .ireturn) (n := 1) (v := some (.int (-1))) rfl rfl ?_
    refine ⟨(-1), rfl, ⟨_, hb_114⟩, ?_⟩
    show mm_Wp X 12 mm_r189 0 [some (.ref 114), some (.int 2), some (.int w), some (.int u), some (.int z), none, none, none] [] _ _
    refine wp_s (i := .iload_n 1) (n := 1) (pc' := 1) (st' := [.int 2]) rfl rfl ?_
    refine wp_s (i := .i2l) (n := 1) (pc' := 2) (st' := [.long 2]) rfl rfl ?_
    refine wp_s (i := .lconst 0) (n := 1) (pc' := 3) (st' := [.long 0, .long 2]) rfl rfl ?_
    refine wp_s (i := .ldc2_w 285) (n := 3) (pc' := 6) (st' := [.long 3, .long 0, .long 2]) rfl rfl ?_
    refine wp_c (i := .invokestatic 81) (n := 3) (Dq := 11) (r' := mm_r120) (as := [.long 2, .long 0, .long 3]) (rest := []) (ls' := [some (.long 2), none, some (.long 0), none, some (.long 3), none]) rfl rfl rfl ?_
    refine wp_x 16 (v := some (.int 1)) (h' := hp_0) (mm_dec (by decide +kernel)) ?_
    show mm_Wp X 12 mm_r189 9 [some (.ref 114), some (.int 2), some (.int w), some (.int u), some (.int z), none, none, none] [.int 1] _ _
    refine wp_s (i := .ifCond .eq 28) (n := 3) (pc' := 12) (st' := []) rfl rfl ?_
    refine wp_s (i := .iload_n 2) (n := 1) (pc' := 13) (st' := [.int w]) rfl rfl ?_
    refine wp_s (i := .i2l) (n := 1) (pc' := 14) (st' := [.long ((w).toInt64)]) rfl rfl ?_
    refine wp_s (i := .lconst 0) (n := 1) (pc' := 15) (st' := [.long 0, .long ((w).toInt64)]) rfl rfl ?_
    refine wp_s (i := .ldc2_w 198) (n := 3) (pc' := 18) (st' := [.long 2, .long 0, .long ((w).toInt64)]) rfl rfl ?_
    refine wp_c (i := .invokestatic 81) (n := 3) (Dq := 11) (r' := mm_r120) (as := [.long ((w).toInt64), .long 0, .long 2]) (rest := []) (ls' := [some (.long ((w).toInt64)), none, some (.long 0), none, some (.long 2), none]) rfl rfl rfl ?_
    refine wp_s (i := .lload_n 0) (n := 1) (pc' := 1) (st' := [.long ((w).toInt64)]) rfl rfl ?_
    refine wp_s (i := .lload_n 2) (n := 1) (pc' := 2) (st' := [.long 0, .long ((w).toInt64)]) rfl rfl ?_
    refine wp_s (i := .lcmp) (n := 1) (pc' := 3) (st' := [.int (lg_cmp ((w).toInt64) 0)]) rfl rfl ?_
    refine wp_if (t := 17) (st := []) rfl rfl (fun hc2 => ?_) (fun hc2 => ?_)
    · skip
      have q2 : (w).toInt < 0 := by have := lc_t_lt hc2; simpa using this
      show mm_Wp _ _ _ 17 _ _ _ _
      refine wp_s (i := .iconst 0) (n := 1) (pc' := 18) (st' := [.int 0]) rfl rfl ?_
      refine wp_r (i := .ireturn) (n := 1) (v := some (.int 0)) rfl rfl ?_
      show mm_Wp X 12 mm_r189 21 [some (.ref 114), some (.int 2), some (.int w), some (.int u), some (.int z), none, none, none] [.int 0] _ _
      refine wp_s (i := .ifCond .eq 16) (n := 3) (pc' := 37) (st' := []) rfl rfl ?_
      refine wp_s (i := .iconst (-1)) (n := 1) (pc' := 38) (st' := [.int (-1)]) rfl rfl ?_
      refine wp_r (i := .ireturn) (n := 1) (v := some (.int (-1))) rfl rfl ?_
      exact ⟨rfl, pk_ok0⟩
    · skip
      have q2 : (w).toInt ≥ 0 := by have := lc_f_lt hc2; simpa using this
      exfalso; omega
  · skip
    have q1 : (w).toInt ≥ 0 := by have := mc_f_lt hc1; simpa using this
    show mm_Wp _ _ _ 4 _ _ _ _
    refine wp_s (i := .iload_n 0) (n := 1) (pc' := 5) (st' := [.int w]) rfl rfl ?_
    refine wp_s (i := .iconst 3) (n := 1) (pc' := 6) (st' := [.int 3, .int w]) rfl rfl ?_
    refine wp_ic (t := 13) (st := []) rfl rfl (fun hc3 => ?_) (fun hc3 => ?_)
    · skip
      have q3 : (w).toInt ≥ 3 := by have := mc_t_ge hc3; simpa using this
      show mm_Wp _ _ _ 13 _ _ _ _
      refine wp_s (i := .iconst 0) (n := 1) (pc' := 14) (st' := [.int 0]) rfl rfl ?_
      refine wp_r (i := .ireturn) (n := 1) (v := some (.int 0)) rfl rfl ?_
      show mm_Wp X 12 mm_r100 11 [some (.ref 0), some (.int 2), some (.int w), some (.int u), some (.int z), none, none, none, none] [.int 0] _ _
      refine wp_s (i := .ifCond .eq 15) (n := 3) (pc' := 26) (st' := []) rfl rfl ?_
      refine wp_s (i := .iconst (-1)) (n := 1) (pc' := 27) (st' := [.int (-1)]) rfl rfl ?_
      refine wp_r (i := .ireturn) (n := 1) (v := some (.int (-1))) rfl rfl ?_
      refine ⟨(-1), rfl, ⟨_, hb_114⟩, ?_⟩
      show mm_Wp X 12 mm_r189 0 [some (.ref 114), some (.int 2), some (.int w), some (.int u), some (.int z), none, none, none] [] _ _
      refine wp_s (i := .iload_n 1) (n := 1) (pc' := 1) (st' := [.int 2]) rfl rfl ?_
      refine wp_s (i := .i2l) (n := 1) (pc' := 2) (st' := [.long 2]) rfl rfl ?_
      refine wp_s (i := .lconst 0) (n := 1) (pc' := 3) (st' := [.long 0, .long 2]) rfl rfl ?_
      refine wp_s (i := .ldc2_w 285) (n := 3) (pc' := 6) (st' := [.long 3, .long 0, .long 2]) rfl rfl ?_
      refine wp_c (i := .invokestatic 81) (n := 3) (Dq := 11) (r' := mm_r120) (as := [.long 2, .long 0, .long 3]) (rest := []) (ls' := [some (.long 2), none, some (.long 0), none, some (.long 3), none]) rfl rfl rfl ?_
      refine wp_x 16 (v := some (.int 1)) (h' := hp_0) (mm_dec (by decide +kernel)) ?_
      show mm_Wp X 12 mm_r189 9 [some (.ref 114), some (.int 2), some (.int w), some (.int u), some (.int z), none, none, none] [.int 1] _ _
      refine wp_s (i := .ifCond .eq 28) (n := 3) (pc' := 12) (st' := []) rfl rfl ?_
      refine wp_s (i := .iload_n 2) (n := 1) (pc' := 13) (st' := [.int w]) rfl rfl ?_
      refine wp_s (i := .i2l) (n := 1) (pc' := 14) (st' := [.long ((w).toInt64)]) rfl rfl ?_
      refine wp_s (i := .lconst 0) (n := 1) (pc' := 15) (st' := [.long 0, .long ((w).toInt64)]) rfl rfl ?_
      refine wp_s (i := .ldc2_w 198) (n := 3) (pc' := 18) (st' := [.long 2, .long 0, .long ((w).toInt64)]) rfl rfl ?_
      refine wp_c (i := .invokestatic 81) (n := 3) (Dq := 11) (r' := mm_r120) (as := [.long ((w).toInt64), .long 0, .long 2]) (rest := []) (ls' := [some (.long ((w).toInt64)), none, some (.long 0), none, some (.long 2), none]) rfl rfl rfl ?_
      refine wp_s (i := .lload_n 0) (n := 1) (pc' := 1) (st' := [.long ((w).toInt64)]) rfl rfl ?_
      refine wp_s (i := .lload_n 2) (n := 1) (pc' := 2) (st' := [.long 0, .long ((w).toInt64)]) rfl rfl ?_
      refine wp_s (i := .lcmp) (n := 1) (pc' := 3) (st' := [.int (lg_cmp ((w).toInt64) 0)]) rfl rfl ?_
      refine wp_if (t := 17) (st := []) rfl rfl (fun hc4 => ?_) (fun hc4 => ?_)
      · skip
        have q4 : (w).toInt < 0 := by have := lc_t_lt hc4; simpa using this
        exfalso; omega
      · skip
        have q4 : (w).toInt ≥ 0 := by have := lc_f_lt hc4; simpa using this
        show mm_Wp _ _ _ 6 _ _ _ _
        refine wp_s (i := .lload_n 0) (n := 1) (pc' := 7) (st' := [.long ((w).toInt64)]) rfl rfl ?_
        refine wp_s (i := .lload 4) (n := 2) (pc' := 9) (st' := [.long 2, .long ((w).toInt64)]) rfl rfl ?_
        refine wp_s (i := .lcmp) (n := 1) (pc' := 10) (st' := [.int (lg_cmp ((w).toInt64) 2)]) rfl rfl ?_
        refine wp_if (t := 17) (st := []) rfl rfl (fun hc5 => ?_) (fun hc5 => ?_)
        · skip
          have q5 : (w).toInt > 2 := by have := lc_t_gt hc5; simpa using this
          show mm_Wp _ _ _ 17 _ _ _ _
          refine wp_s (i := .iconst 0) (n := 1) (pc' := 18) (st' := [.int 0]) rfl rfl ?_
          refine wp_r (i := .ireturn) (n := 1) (v := some (.int 0)) rfl rfl ?_
          show mm_Wp X 12 mm_r189 21 [some (.ref 114), some (.int 2), some (.int w), some (.int u), some (.int z), none, none, none] [.int 0] _ _
          refine wp_s (i := .ifCond .eq 16) (n := 3) (pc' := 37) (st' := []) rfl rfl ?_
          refine wp_s (i := .iconst (-1)) (n := 1) (pc' := 38) (st' := [.int (-1)]) rfl rfl ?_
          refine wp_r (i := .ireturn) (n := 1) (v := some (.int (-1))) rfl rfl ?_
          exact ⟨rfl, pk_ok0⟩
        · skip
          have q5 : (w).toInt ≤ 2 := by have := lc_f_gt hc5; simpa using this
          exfalso; omega
    · skip
      have q3 : (w).toInt < 3 := by have := mc_f_ge hc3; simpa using this
      show mm_Wp _ _ _ 9 _ _ _ _
      refine wp_s (i := .iconst 1) (n := 1) (pc' := 10) (st' := [.int 1]) rfl rfl ?_
      refine wp_s (i := .goto 4) (n := 3) (pc' := 14) (st' := [.int 1]) rfl rfl ?_
      refine wp_r (i := .ireturn) (n := 1) (v := some (.int 1)) rfl rfl ?_
      show mm_Wp X 12 mm_r100 11 [some (.ref 0), some (.int 2), some (.int w), some (.int u), some (.int z), none, none, none, none] [.int 1] _ _
      refine wp_s (i := .ifCond .eq 15) (n := 3) (pc' := 14) (st' := []) rfl rfl ?_
      refine wp_s (i := .iload 4) (n := 2) (pc' := 16) (st' := [.int z]) rfl rfl ?_
      refine wp_if (t := 26) (st := []) rfl rfl (fun hc6 => ?_) (fun hc6 => ?_)
      · skip
        have q6 : (z).toInt < 0 := by have := mc_t_lt hc6; simpa using this
        show mm_Wp _ _ _ 26 _ _ _ _
        refine wp_s (i := .iconst (-1)) (n := 1) (pc' := 27) (st' := [.int (-1)]) rfl rfl ?_
        refine wp_r (i := .ireturn) (n := 1) (v := some (.int (-1))) rfl rfl ?_
        refine ⟨(-1), rfl, ⟨_, hb_114⟩, ?_⟩
        show mm_Wp X 12 mm_r189 0 [some (.ref 114), some (.int 2), some (.int w), some (.int u), some (.int z), none, none, none] [] _ _
        refine wp_s (i := .iload_n 1) (n := 1) (pc' := 1) (st' := [.int 2]) rfl rfl ?_
        refine wp_s (i := .i2l) (n := 1) (pc' := 2) (st' := [.long 2]) rfl rfl ?_
        refine wp_s (i := .lconst 0) (n := 1) (pc' := 3) (st' := [.long 0, .long 2]) rfl rfl ?_
        refine wp_s (i := .ldc2_w 285) (n := 3) (pc' := 6) (st' := [.long 3, .long 0, .long 2]) rfl rfl ?_
        refine wp_c (i := .invokestatic 81) (n := 3) (Dq := 11) (r' := mm_r120) (as := [.long 2, .long 0, .long 3]) (rest := []) (ls' := [some (.long 2), none, some (.long 0), none, some (.long 3), none]) rfl rfl rfl ?_
        refine wp_x 16 (v := some (.int 1)) (h' := hp_0) (mm_dec (by decide +kernel)) ?_
        show mm_Wp X 12 mm_r189 9 [some (.ref 114), some (.int 2), some (.int w), some (.int u), some (.int z), none, none, none] [.int 1] _ _
        refine wp_s (i := .ifCond .eq 28) (n := 3) (pc' := 12) (st' := []) rfl rfl ?_
        refine wp_s (i := .iload_n 2) (n := 1) (pc' := 13) (st' := [.int w]) rfl rfl ?_
        refine wp_s (i := .i2l) (n := 1) (pc' := 14) (st' := [.long ((w).toInt64)]) rfl rfl ?_
        refine wp_s (i := .lconst 0) (n := 1) (pc' := 15) (st' := [.long 0, .long ((w).toInt64)]) rfl rfl ?_
        refine wp_s (i := .ldc2_w 198) (n := 3) (pc' := 18) (st' := [.long 2, .long 0, .long ((w).toInt64)]) rfl rfl ?_
        refine wp_c (i := .invokestatic 81) (n := 3) (Dq := 11) (r' := mm_r120) (as := [.long ((w).toInt64), .long 0, .long 2]) (rest := []) (ls' := [some (.long ((w).toInt64)), none, some (.long 0), none, some (.long 2), none]) rfl rfl rfl ?_
        refine wp_s (i := .lload_n 0) (n := 1) (pc' := 1) (st' := [.long ((w).toInt64)]) rfl rfl ?_
        refine wp_s (i := .lload_n 2) (n := 1) (pc' := 2) (st' := [.long 0, .long ((w).toInt64)]) rfl rfl ?_
        refine wp_s (i := .lcmp) (n := 1) (pc' := 3) (st' := [.int (lg_cmp ((w).toInt64) 0)]) rfl rfl ?_
        refine wp_if (t := 17) (st := []) rfl rfl (fun hc7 => ?_) (fun hc7 => ?_)
        · skip
          have q7 : (w).toInt < 0 := by have := lc_t_lt hc7; simpa using this
          exfalso; omega
        · skip
          have q7 : (w).toInt ≥ 0 := by have := lc_f_lt hc7; simpa using this
          show mm_Wp _ _ _ 6 _ _ _ _
          refine wp_s (i := .lload_n 0) (n := 1) (pc' := 7) (st' := [.long ((w).toInt64)]) rfl rfl ?_
          refine wp_s (i := .lload 4) (n := 2) (pc' := 9) (st' := [.long 2, .long ((w).toInt64)]) rfl rfl ?_
          refine wp_s (i := .lcmp) (n := 1) (pc' := 10) (st' := [.int (lg_cmp ((w).toInt64) 2)]) rfl rfl ?_
          refine wp_if (t := 17) (st := []) rfl rfl (fun hc8 => ?_) (fun hc8 => ?_)
          · skip
            have q8 : (w).toInt > 2 := by have := lc_t_gt hc8; simpa using this
            exfalso; omega
          · skip
            have q8 : (w).toInt ≤ 2 := by have := lc_f_gt hc8; simpa using this
            show mm_Wp _ _ _ 13 _ _ _ _
            refine wp_s (i := .iconst 1) (n := 1) (pc' := 14) (st' := [.int 1]) rfl rfl ?_
            refine wp_s (i := .goto 4) (n := 3) (pc' := 18) (st' := [.int 1]) rfl rfl ?_
            refine wp_r (i := .ireturn) (n := 1) (v := some (.int 1)) rfl rfl ?_
            show mm_Wp X 12 mm_r189 21 [some (.ref 114), some (.int 2), some (.int w), some (.int u), some (.int z), none, none, none] [.int 1] _ _
            refine wp_s (i := .ifCond .eq 16) (n := 3) (pc' := 24) (st' := []) rfl rfl ?_
            refine wp_s (i := .iload 4) (n := 2) (pc' := 26) (st' := [.int z]) rfl rfl ?_
            refine wp_s (i := .i2l) (n := 1) (pc' := 27) (st' := [.long ((z).toInt64)]) rfl rfl ?_
            refine wp_s (i := .lconst 0) (n := 1) (pc' := 28) (st' := [.long 0, .long ((z).toInt64)]) rfl rfl ?_
            refine wp_s (i := .ldc2_w 277) (n := 3) (pc' := 31) (st' := [.long 12, .long 0, .long ((z).toInt64)]) rfl rfl ?_
            refine wp_c (i := .invokestatic 81) (n := 3) (Dq := 11) (r' := mm_r120) (as := [.long ((z).toInt64), .long 0, .long 12]) (rest := []) (ls' := [some (.long ((z).toInt64)), none, some (.long 0), none, some (.long 12), none]) rfl rfl rfl ?_
            refine wp_s (i := .lload_n 0) (n := 1) (pc' := 1) (st' := [.long ((z).toInt64)]) rfl rfl ?_
            refine wp_s (i := .lload_n 2) (n := 1) (pc' := 2) (st' := [.long 0, .long ((z).toInt64)]) rfl rfl ?_
            refine wp_s (i := .lcmp) (n := 1) (pc' := 3) (st' := [.int (lg_cmp ((z).toInt64) 0)]) rfl rfl ?_
            refine wp_if (t := 17) (st := []) rfl rfl (fun hc9 => ?_) (fun hc9 => ?_)
            · skip
              have q9 : (z).toInt < 0 := by have := lc_t_lt hc9; simpa using this
              show mm_Wp _ _ _ 17 _ _ _ _
              refine wp_s (i := .iconst 0) (n := 1) (pc' := 18) (st' := [.int 0]) rfl rfl ?_
              refine wp_r (i := .ireturn) (n := 1) (v := some (.int 0)) rfl rfl ?_
              show mm_Wp X 12 mm_r189 34 [some (.ref 114), some (.int 2), some (.int w), some (.int u), some (.int z), none, none, none] [.int 0] _ _
              refine wp_s (i := .ifCond .ne 5) (n := 3) (pc' := 37) (st' := []) rfl rfl ?_
              refine wp_s (i := .iconst (-1)) (n := 1) (pc' := 38) (st' := [.int (-1)]) rfl rfl ?_
              refine wp_r (i := .ireturn) (n := 1) (v := some (.int (-1))) rfl rfl ?_
              exact ⟨rfl, pk_ok0⟩
            · skip
              have q9 : (z).toInt ≥ 0 := by have := lc_f_lt hc9; simpa using this
              exfalso; omega
      · skip
        have q6 : (z).toInt ≥ 0 := by have := mc_f_lt hc6; simpa using this
        show mm_Wp _ _ _ 19 _ _ _ _
        refine wp_s (i := .iload 4) (n := 2) (pc' := 21) (st' := [.int z]) rfl rfl ?_
        refine wp_s (i := .bipush 12) (n := 2) (pc' := 23) (st' := [.int 12, .int z]) rfl rfl ?_
        refine wp_ic (t := 28) (st := []) rfl rfl (fun hc10 => ?_) (fun hc10 => ?_)
        · skip
          have q10 : (z).toInt ≤ 12 := by have := mc_t_le hc10; simpa using this
          show mm_Wp _ _ _ 28 _ _ _ _
          refine wp_s (i := .aload_n 0) (n := 1) (pc' := 29) (st' := [.ref 0]) rfl rfl ?_
          refine wp_gf (idx := 64) (a := 0) (v := .ref 67) (pc' := 32) rfl rfl hb_0 rfl rfl ?_
          refine wp_s (i := .iload_n 1) (n := 1) (pc' := 33) (st' := [.int 2, .ref 67]) rfl rfl ?_
          refine wp_aa (b := 110) (pc' := 34) rfl (by decide) hb_67 rfl rfl rfl ?_
          refine wp_s (i := .astore 5) (n := 2) (pc' := 36) (ls' := [some (.ref 0), some (.int 2), some (.int w), some (.int u), some (.int z), some (.ref 110), none, none, none]) (st' := []) rfl rfl ?_
          refine wp_s (i := .iconst 0) (n := 1) (pc' := 37) (st' := [.int 0]) rfl rfl ?_
          refine wp_s (i := .istore 6) (n := 2) (pc' := 39) (ls' := [some (.ref 0), some (.int 2), some (.int w), some (.int u), some (.int z), some (.ref 110), some (.int 0), none, none]) (st' := []) rfl rfl ?_
          refine wp_s (i := .iconst 0) (n := 1) (pc' := 40) (st' := [.int 0]) rfl rfl ?_
          refine wp_s (i := .istore 7) (n := 2) (pc' := 42) (ls' := [some (.ref 0), some (.int 2), some (.int w), some (.int u), some (.int z), some (.ref 110), some (.int 0), some (.int 0), none]) (st' := []) rfl rfl ?_
          refine wp_s (i := .iload 6) (n := 2) (pc' := 44) (st' := [.int 0]) rfl rfl ?_
          refine wp_s (i := .iload 4) (n := 2) (pc' := 46) (st' := [.int z, .int 0]) rfl rfl ?_
          refine wp_ic (t := 99) (st := []) rfl rfl (fun hc11 => ?_) (fun hc11 => ?_)
          · skip
            show mm_Wp _ _ _ 99 _ _ _ _
            refine wp_s (i := .iconst 0) (n := 1) (pc' := 100) (st' := [.int 0]) rfl rfl ?_
            refine wp_s (i := .istore 8) (n := 2) (pc' := 102) (ls' := [some (.ref 0), some (.int 2), some (.int w), some (.int u), some (.int z), some (.ref 110), some (.int 0), some (.int 0), some (.int 0)]) (st' := []) rfl rfl ?_
            refine wp_s (i := .iload 8) (n := 2) (pc' := 104) (st' := [.int 0]) rfl rfl ?_
            refine wp_s (i := .iload 6) (n := 2) (pc' := 106) (st' := [.int 0, .int 0]) rfl rfl ?_
            refine wp_s (i := .if_icmp .ge 35) (n := 3) (pc' := 141) (st' := []) rfl rfl ?_
            refine wp_s (i := .aload_n 0) (n := 1) (pc' := 142) (st' := [.ref 0]) rfl rfl ?_
            refine wp_s (i := .iload 7) (n := 2) (pc' := 144) (st' := [.int 0, .ref 0]) rfl rfl ?_
            refine wp_pf (idx := 323) (a := 0) (fs' := [.ref 1, .ref 2, .ref 25, .ref 36, .ref 46, .ref 54, .ref 65, .ref 66, .ref 67, .int 0, .int 0]) (pc' := 147) rfl rfl rfl hb_0 rfl rfl rfl rfl rfl ?_
            refine wp_s (i := .iload 6) (n := 2) (pc' := 149) (st' := [.int 0]) rfl rfl ?_
            refine wp_r (i := .ireturn) (n := 1) (v := some (.int 0)) rfl rfl ?_
            refine ⟨0, rfl, ⟨_, (mm_sn rfl hb_114)⟩, ?_⟩
            show mm_Wp X 12 mm_r189 0 [some (.ref 114), some (.int 2), some (.int w), some (.int u), some (.int z), none, none, none] [] _ _
            refine wp_s (i := .iload_n 1) (n := 1) (pc' := 1) (st' := [.int 2]) rfl rfl ?_
            refine wp_s (i := .i2l) (n := 1) (pc' := 2) (st' := [.long 2]) rfl rfl ?_
            refine wp_s (i := .lconst 0) (n := 1) (pc' := 3) (st' := [.long 0, .long 2]) rfl rfl ?_
            refine wp_s (i := .ldc2_w 285) (n := 3) (pc' := 6) (st' := [.long 3, .long 0, .long 2]) rfl rfl ?_
            refine wp_c (i := .invokestatic 81) (n := 3) (Dq := 11) (r' := mm_r120) (as := [.long 2, .long 0, .long 3]) (rest := []) (ls' := [some (.long 2), none, some (.long 0), none, some (.long 3), none]) rfl rfl rfl ?_
            refine wp_x 16 (v := some (.int 1)) (h' := hp_0.set 0 (.inr (9, [.ref 1, .ref 2, .ref 25, .ref 36, .ref 46, .ref 54, .ref 65, .ref 66, .ref 67, .int 0, .int 0]))) (mm_dec (by decide +kernel)) ?_
            show mm_Wp X 12 mm_r189 9 [some (.ref 114), some (.int 2), some (.int w), some (.int u), some (.int z), none, none, none] [.int 1] _ _
            refine wp_s (i := .ifCond .eq 28) (n := 3) (pc' := 12) (st' := []) rfl rfl ?_
            refine wp_s (i := .iload_n 2) (n := 1) (pc' := 13) (st' := [.int w]) rfl rfl ?_
            refine wp_s (i := .i2l) (n := 1) (pc' := 14) (st' := [.long ((w).toInt64)]) rfl rfl ?_
            refine wp_s (i := .lconst 0) (n := 1) (pc' := 15) (st' := [.long 0, .long ((w).toInt64)]) rfl rfl ?_
            refine wp_s (i := .ldc2_w 198) (n := 3) (pc' := 18) (st' := [.long 2, .long 0, .long ((w).toInt64)]) rfl rfl ?_
            refine wp_c (i := .invokestatic 81) (n := 3) (Dq := 11) (r' := mm_r120) (as := [.long ((w).toInt64), .long 0, .long 2]) (rest := []) (ls' := [some (.long ((w).toInt64)), none, some (.long 0), none, some (.long 2), none]) rfl rfl rfl ?_
            refine wp_s (i := .lload_n 0) (n := 1) (pc' := 1) (st' := [.long ((w).toInt64)]) rfl rfl ?_
            refine wp_s (i := .lload_n 2) (n := 1) (pc' := 2) (st' := [.long 0, .long ((w).toInt64)]) rfl rfl ?_
            refine wp_s (i := .lcmp) (n := 1) (pc' := 3) (st' := [.int (lg_cmp ((w).toInt64) 0)]) rfl rfl ?_
            refine wp_if (t := 17) (st := []) rfl rfl (fun hc12 => ?_) (fun hc12 => ?_)
            · skip
              have q12 : (w).toInt < 0 := by have := lc_t_lt hc12; simpa using this
              exfalso; omega
            · skip
              have q12 : (w).toInt ≥ 0 := by have := lc_f_lt hc12; simpa using this
              show mm_Wp _ _ _ 6 _ _ _ _
              refine wp_s (i := .lload_n 0) (n := 1) (pc' := 7) (st' := [.long ((w).toInt64)]) rfl rfl ?_
              refine wp_s (i := .lload 4) (n := 2) (pc' := 9) (st' := [.long 2, .long ((w).toInt64)]) rfl rfl ?_
              refine wp_s (i := .lcmp) (n := 1) (pc' := 10) (st' := [.int (lg_cmp ((w).toInt64) 2)]) rfl rfl ?_
              refine wp_if (t := 17) (st := []) rfl rfl (fun hc13 => ?_) (fun hc13 => ?_)
              · skip
                have q13 : (w).toInt > 2 := by have := lc_t_gt hc13; simpa using this
                exfalso; omega
              · skip
                have q13 : (w).toInt ≤ 2 := by have := lc_f_gt hc13; simpa using this
                show mm_Wp _ _ _ 13 _ _ _ _
                refine wp_s (i := .iconst 1) (n := 1) (pc' := 14) (st' := [.int 1]) rfl rfl ?_
                refine wp_s (i := .goto 4) (n := 3) (pc' := 18) (st' := [.int 1]) rfl rfl ?_
                refine wp_r (i := .ireturn) (n := 1) (v := some (.int 1)) rfl rfl ?_
                show mm_Wp X 12 mm_r189 21 [some (.ref 114), some (.int 2), some (.int w), some (.int u), some (.int z), none, none, none] [.int 1] _ _
                refine wp_s (i := .ifCond .eq 16) (n := 3) (pc' := 24) (st' := []) rfl rfl ?_
                refine wp_s (i := .iload 4) (n := 2) (pc' := 26) (st' := [.int z]) rfl rfl ?_
                refine wp_s (i := .i2l) (n := 1) (pc' := 27) (st' := [.long ((z).toInt64)]) rfl rfl ?_
                refine wp_s (i := .lconst 0) (n := 1) (pc' := 28) (st' := [.long 0, .long ((z).toInt64)]) rfl rfl ?_
                refine wp_s (i := .ldc2_w 277) (n := 3) (pc' := 31) (st' := [.long 12, .long 0, .long ((z).toInt64)]) rfl rfl ?_
                refine wp_c (i := .invokestatic 81) (n := 3) (Dq := 11) (r' := mm_r120) (as := [.long ((z).toInt64), .long 0, .long 12]) (rest := []) (ls' := [some (.long ((z).toInt64)), none, some (.long 0), none, some (.long 12), none]) rfl rfl rfl ?_
                refine wp_s (i := .lload_n 0) (n := 1) (pc' := 1) (st' := [.long ((z).toInt64)]) rfl rfl ?_
                refine wp_s (i := .lload_n 2) (n := 1) (pc' := 2) (st' := [.long 0, .long ((z).toInt64)]) rfl rfl ?_
                refine wp_s (i := .lcmp) (n := 1) (pc' := 3) (st' := [.int (lg_cmp ((z).toInt64) 0)]) rfl rfl ?_
                refine wp_if (t := 17) (st := []) rfl rfl (fun hc14 => ?_) (fun hc14 => ?_)
                · skip
                  have q14 : (z).toInt < 0 := by have := lc_t_lt hc14; simpa using this
                  exfalso; omega
                · skip
                  have q14 : (z).toInt ≥ 0 := by have := lc_f_lt hc14; simpa using this
                  show mm_Wp _ _ _ 6 _ _ _ _
                  refine wp_s (i := .lload_n 0) (n := 1) (pc' := 7) (st' := [.long ((z).toInt64)]) rfl rfl ?_
                  refine wp_s (i := .lload 4) (n := 2) (pc' := 9) (st' := [.long 12, .long ((z).toInt64)]) rfl rfl ?_
                  refine wp_s (i := .lcmp) (n := 1) (pc' := 10) (st' := [.int (lg_cmp ((z).toInt64) 12)]) rfl rfl ?_
                  refine wp_if (t := 17) (st := []) rfl rfl (fun hc15 => ?_) (fun hc15 => ?_)
                  · skip
                    have q15 : (z).toInt > 12 := by have := lc_t_gt hc15; simpa using this
                    exfalso; omega
                  · skip
                    have q15 : (z).toInt ≤ 12 := by have := lc_f_gt hc15; simpa using this
                    show mm_Wp _ _ _ 13 _ _ _ _
                    refine wp_s (i := .iconst 1) (n := 1) (pc' := 14) (st' := [.int 1]) rfl rfl ?_
                    refine wp_s (i := .goto 4) (n := 3) (pc' := 18) (st' := [.int 1]) rfl rfl ?_
                    refine wp_r (i := .ireturn) (n := 1) (v := some (.int 1)) rfl rfl ?_
                    show mm_Wp X 12 mm_r189 34 [some (.ref 114), some (.int 2), some (.int w), some (.int u), some (.int z), none, none, none] [.int 1] _ _
                    refine wp_s (i := .ifCond .ne 5) (n := 3) (pc' := 39) (st' := []) rfl rfl ?_
                    refine wp_s (i := .iconst 0) (n := 1) (pc' := 40) (st' := [.int 0]) rfl rfl ?_
                    refine wp_s (i := .istore 5) (n := 2) (pc' := 42) (ls' := [some (.ref 114), some (.int 2), some (.int w), some (.int u), some (.int z), some (.int 0), none, none]) (st' := []) rfl rfl ?_
                    refine wp_s (i := .iconst 0) (n := 1) (pc' := 43) (st' := [.int 0]) rfl rfl ?_
                    refine wp_s (i := .istore 6) (n := 2) (pc' := 45) (ls' := [some (.ref 114), some (.int 2), some (.int w), some (.int u), some (.int z), some (.int 0), some (.int 0), none]) (st' := []) rfl rfl ?_
                    refine wp_s (i := .iload 6) (n := 2) (pc' := 47) (st' := [.int 0]) rfl rfl ?_
                    refine wp_s (i := .iload 4) (n := 2) (pc' := 49) (st' := [.int z, .int 0]) rfl rfl ?_
                    refine wp_ic (t := 169) (st := []) rfl rfl (fun hc16 => ?_) (fun hc16 => ?_)
                    · skip
                      show mm_Wp _ _ _ 169 _ _ _ _
                      refine wp_s (i := .iconst 0) (n := 1) (pc' := 170) (st' := [.int 0]) rfl rfl ?_
                      refine wp_s (i := .istore 7) (n := 2) (pc' := 172) (ls' := [some (.ref 114), some (.int 2), some (.int w), some (.int u), some (.int z), some (.int 0), some (.int 0), some (.int 0)]) (st' := []) rfl rfl ?_
                      refine wp_s (i := .iload 7) (n := 2) (pc' := 174) (st' := [.int 0]) rfl rfl ?_
                      refine wp_s (i := .iload 6) (n := 2) (pc' := 176) (st' := [.int 0, .int 0]) rfl rfl ?_
                      refine wp_s (i := .if_icmp .ge 29) (n := 3) (pc' := 205) (st' := []) rfl rfl ?_
                      refine wp_s (i := .aload_n 0) (n := 1) (pc' := 206) (st' := [.ref 114]) rfl rfl ?_
                      refine wp_s (i := .iload 5) (n := 2) (pc' := 208) (st' := [.int 0, .ref 114]) rfl rfl ?_
                      refine wp_pf (idx := 287) (a := 114) (fs' := [.ref 115, .int 0, .int 0, .int 0, .int 0, .int 0, .int 0, .ref 116, .ref 117, .ref 118, .ref 119, .ref 120, .ref 121, .ref 122, .ref 123, .ref 124, .ref 125, .int 0, .int 0, .int 0, .int 0, .ref 126, .int 0, .int 0, .int 0, .int 0, .int 0, .int 0, .int 0, .int 0, .ref 127, .ref 128, .ref 129, .ref 130, .int 0, .ref 131, .ref 132, .int 0, .int 0, .int 0, .int 0, .ref 133, .ref 134, .ref 135, .ref 136, .int 0]) (pc' := 211) rfl rfl rfl (mm_sn rfl hb_114) rfl rfl rfl rfl rfl ?_
                      refine wp_s (i := .iload 6) (n := 2) (pc' := 213) (st' := [.int 0]) rfl rfl ?_
                      refine wp_r (i := .ireturn) (n := 1) (v := some (.int 0)) rfl rfl ?_
                      exact ⟨rfl, (pk_okS (pk_okS pk_ok0 hb_0 rfl) (mm_sn rfl hb_114) rfl)⟩
                    · skip
                      show mm_Wp _ _ _ 52 _ _ _ _
                      refine wp_s (i := .iload 5) (n := 2) (pc' := 54) (st' := [.int 0]) rfl rfl ?_
                      refine wp_s (i := .ifCond .ne 115) (n := 3) (pc' := 57) (st' := []) rfl rfl ?_
                      refine wp_s (i := .aload_n 0) (n := 1) (pc' := 58) (st' := [.ref 114]) rfl rfl ?_
                      refine wp_gf (idx := 68) (a := 114) (v := .ref 134) (pc' := 61) rfl rfl (mm_sn rfl hb_114) rfl rfl ?_
                      refine wp_s (i := .iload_n 1) (n := 1) (pc' := 62) (st' := [.int 2, .ref 134]) rfl rfl ?_
                      refine wp_ia (x := (-4)) (pc' := 63) rfl (mm_sn rfl hb_134) rfl rfl rfl ?_
                      refine wp_s (i := .bipush (-4)) (n := 2) (pc' := 65) (st' := [.int (-4), .int (-4)]) rfl rfl ?_
                      refine wp_s (i := .if_icmp .ne 7) (n := 3) (pc' := 68) (st' := []) rfl rfl ?_
                      refine wp_s (i := .iconst 1) (n := 1) (pc' := 69) (st' := [.int 1]) rfl rfl ?_
                      refine wp_s (i := .goto 44) (n := 3) (pc' := 113) (st' := [.int 1]) rfl rfl ?_
                      refine wp_s (i := .istore 5) (n := 2) (pc' := 115) (ls' := [some (.ref 114), some (.int 2), some (.int w), some (.int u), some (.int z), some (.int 1), some (.int 0), none]) (st' := []) rfl rfl ?_
                      refine wp_s (i := .iload 5) (n := 2) (pc' := 117) (st' := [.int 1]) rfl rfl ?_
                      refine wp_s (i := .ifCond .ne 34) (n := 3) (pc' := 151) (st' := []) rfl rfl ?_
                      refine wp_s (i := .iload 6) (n := 2) (pc' := 153) (st' := [.int 0]) rfl rfl ?_
                      refine wp_s (i := .iload 5) (n := 2) (pc' := 155) (st' := [.int 1, .int 0]) rfl rfl ?_
                      refine wp_s (i := .ifCond .ne 7) (n := 3) (pc' := 162) (st' := [.int 0]) rfl rfl ?_
                      refine wp_s (i := .iconst 0) (n := 1) (pc' := 163) (st' := [.int 0, .int 0]) rfl rfl ?_
                      refine wp_s (i := .iadd) (n := 1) (pc' := 164) (st' := [.int 0]) rfl rfl ?_
                      refine wp_s (i := .istore 6) (n := 2) (pc' := 166) (ls' := [some (.ref 114), some (.int 2), some (.int w), some (.int u), some (.int z), some (.int 1), some (.int 0), none]) (st' := []) rfl rfl ?_
                      refine wp_s (i := .goto (-121)) (n := 3) (pc' := 45) (st' := []) rfl rfl ?_
                      refine wp_s (i := .iload 6) (n := 2) (pc' := 47) (st' := [.int 0]) rfl rfl ?_
                      refine wp_s (i := .iload 4) (n := 2) (pc' := 49) (st' := [.int z, .int 0]) rfl rfl ?_
                      refine wp_ic (t := 169) (st := []) rfl rfl (fun hc17 => ?_) (fun hc17 => ?_)
                      · skip
                        show mm_Wp _ _ _ 169 _ _ _ _
                        refine wp_s (i := .iconst 0) (n := 1) (pc' := 170) (st' := [.int 0]) rfl rfl ?_
                        refine wp_s (i := .istore 7) (n := 2) (pc' := 172) (ls' := [some (.ref 114), some (.int 2), some (.int w), some (.int u), some (.int z), some (.int 1), some (.int 0), some (.int 0)]) (st' := []) rfl rfl ?_
                        refine wp_s (i := .iload 7) (n := 2) (pc' := 174) (st' := [.int 0]) rfl rfl ?_
                        refine wp_s (i := .iload 6) (n := 2) (pc' := 176) (st' := [.int 0, .int 0]) rfl rfl ?_
                        refine wp_s (i := .if_icmp .ge 29) (n := 3) (pc' := 205) (st' := []) rfl rfl ?_
                        refine wp_s (i := .aload_n 0) (n := 1) (pc' := 206) (st' := [.ref 114]) rfl rfl ?_
                        refine wp_s (i := .iload 5) (n := 2) (pc' := 208) (st' := [.int 1, .ref 114]) rfl rfl ?_
                        refine wp_pf (idx := 287) (a := 114) (fs' := [.ref 115, .int 0, .int 0, .int 0, .int 0, .int 0, .int 0, .ref 116, .ref 117, .ref 118, .ref 119, .ref 120, .ref 121, .ref 122, .ref 123, .ref 124, .ref 125, .int 0, .int 0, .int 0, .int 0, .ref 126, .int 0, .int 0, .int 0, .int 0, .int 0, .int 0, .int 0, .int 0, .ref 127, .ref 128, .ref 129, .ref 130, .int 0, .ref 131, .ref 132, .int 0, .int 0, .int 0, .int 0, .ref 133, .ref 134, .ref 135, .ref 136, .int 1]) (pc' := 211) rfl rfl rfl (mm_sn rfl hb_114) rfl rfl rfl rfl rfl ?_
                        refine wp_s (i := .iload 6) (n := 2) (pc' := 213) (st' := [.int 0]) rfl rfl ?_
                        refine wp_r (i := .ireturn) (n := 1) (v := some (.int 0)) rfl rfl ?_
                        exact ⟨rfl, (pk_okS (pk_okS pk_ok0 hb_0 rfl) (mm_sn rfl hb_114) rfl)⟩
                      · skip
                        show mm_Wp _ _ _ 52 _ _ _ _
                        refine wp_s (i := .iload 5) (n := 2) (pc' := 54) (st' := [.int 1]) rfl rfl ?_
                        refine wp_s (i := .ifCond .ne 115) (n := 3) (pc' := 169) (st' := []) rfl rfl ?_
                        refine wp_s (i := .iconst 0) (n := 1) (pc' := 170) (st' := [.int 0]) rfl rfl ?_
                        refine wp_s (i := .istore 7) (n := 2) (pc' := 172) (ls' := [some (.ref 114), some (.int 2), some (.int w), some (.int u), some (.int z), some (.int 1), some (.int 0), some (.int 0)]) (st' := []) rfl rfl ?_
                        refine wp_s (i := .iload 7) (n := 2) (pc' := 174) (st' := [.int 0]) rfl rfl ?_
                        refine wp_s (i := .iload 6) (n := 2) (pc' := 176) (st' := [.int 0, .int 0]) rfl rfl ?_
                        refine wp_s (i := .if_icmp .ge 29) (n := 3) (pc' := 205) (st' := []) rfl rfl ?_
                        refine wp_s (i := .aload_n 0) (n := 1) (pc' := 206) (st' := [.ref 114]) rfl rfl ?_
                        refine wp_s (i := .iload 5) (n := 2) (pc' := 208) (st' := [.int 1, .ref 114]) rfl rfl ?_
                        refine wp_pf (idx := 287) (a := 114) (fs' := [.ref 115, .int 0, .int 0, .int 0, .int 0, .int 0, .int 0, .ref 116, .ref 117, .ref 118, .ref 119, .ref 120, .ref 121, .ref 122, .ref 123, .ref 124, .ref 125, .int 0, .int 0, .int 0, .int 0, .ref 126, .int 0, .int 0, .int 0, .int 0, .int 0, .int 0, .int 0, .int 0, .ref 127, .ref 128, .ref 129, .ref 130, .int 0, .ref 131, .ref 132, .int 0, .int 0, .int 0, .int 0, .ref 133, .ref 134, .ref 135, .ref 136, .int 1]) (pc' := 211) rfl rfl rfl (mm_sn rfl hb_114) rfl rfl rfl rfl rfl ?_
                        refine wp_s (i := .iload 6) (n := 2) (pc' := 213) (st' := [.int 0]) rfl rfl ?_
                        refine wp_r (i := .ireturn) (n := 1) (v := some (.int 0)) rfl rfl ?_
                        exact ⟨rfl, (pk_okS (pk_okS pk_ok0 hb_0 rfl) (mm_sn rfl hb_114) rfl)⟩
          · skip
            show mm_Wp _ _ _ 49 _ _ _ _
            refine wp_s (i := .iload 7) (n := 2) (pc' := 51) (st' := [.int 0]) rfl rfl ?_
            refine wp_s (i := .ifCond .ne 48) (n := 3) (pc' := 54) (st' := []) rfl rfl ?_
            refine wp_s (i := .aload 5) (n := 2) (pc' := 56) (st' := [.ref 110]) rfl rfl ?_
            refine wp_s (i := .iload_n 2) (n := 1) (pc' := 57) (st' := [.int w, .ref 110]) rfl rfl ?_
            refine wp_s (i := .iload_n 3) (n := 1) (pc' := 58) (st' := [.int u, .int w, .ref 110]) rfl rfl ?_
            refine wp_s (i := .iload 6) (n := 2) (pc' := 60) (st' := [.int 0, .int u, .int w, .ref 110]) rfl rfl ?_
            refine wp_s (i := .iadd) (n := 1) (pc' := 61) (st' := [.int (u + 0), .int w, .ref 110]) rfl rfl ?_
            refine wp_c (i := .invokevirtual 313) (n := 3) (Dq := 11) (r' := mm_r60) (as := [.ref 110, .int w, .int (u + 0)]) (rest := []) (ls' := [some (.ref 110), some (.int w), some (.int (u + 0))]) rfl rfl rfl ?_
            refine wp_s (i := .aload_n 0) (n := 1) (pc' := 1) (st' := [.ref 110]) rfl rfl ?_
            refine wp_c (i := .invokevirtual 28) (n := 3) (Dq := 10) (r' := mm_r58) (as := [.ref 110]) (rest := []) (ls' := [some (.ref 110)]) rfl rfl rfl ?_
            refine wp_x 12 (v := some (.int 1)) (h' := hp_0) (mm_dec (by decide +kernel)) ?_
            show mm_Wp X 11 mm_r60 4 [some (.ref 110), some (.int w), some (.int (u + 0))] [.int 1] _ _
            refine wp_s (i := .ifCond .eq 5) (n := 3) (pc' := 7) (st' := []) rfl rfl ?_
            refine wp_s (i := .iconst 1) (n := 1) (pc' := 8) (st' := [.int 1]) rfl rfl ?_
            refine wp_r (i := .ireturn) (n := 1) (v := some (.int 1)) rfl rfl ?_
            show mm_Wp X 12 mm_r100 64 [some (.ref 0), some (.int 2), some (.int w), some (.int u), some (.int z), some (.ref 110), some (.int 0), some (.int 0), none] [.int 1] _ _
            refine wp_s (i := .istore 7) (n := 2) (pc' := 66) (ls' := [some (.ref 0), some (.int 2), some (.int w), some (.int u), some (.int z), some (.ref 110), some (.int 0), some (.int 1), none]) (st' := []) rfl rfl ?_
            refine wp_s (i := .iload 7) (n := 2) (pc' := 68) (st' := [.int 1]) rfl rfl ?_
            refine wp_s (i := .ifCond .ne (-26)) (n := 3) (pc' := 42) (st' := []) rfl rfl ?_
            refine wp_s (i := .iload 6) (n := 2) (pc' := 44) (st' := [.int 0]) rfl rfl ?_
            refine wp_s (i := .iload 4) (n := 2) (pc' := 46) (st' := [.int z, .int 0]) rfl rfl ?_
            refine wp_ic (t := 99) (st := []) rfl rfl (fun hc18 => ?_) (fun hc18 => ?_)
            · skip
              show mm_Wp _ _ _ 99 _ _ _ _
              refine wp_s (i := .iconst 0) (n := 1) (pc' := 100) (st' := [.int 0]) rfl rfl ?_
              refine wp_s (i := .istore 8) (n := 2) (pc' := 102) (ls' := [some (.ref 0), some (.int 2), some (.int w), some (.int u), some (.int z), some (.ref 110), some (.int 0), some (.int 1), some (.int 0)]) (st' := []) rfl rfl ?_
              refine wp_s (i := .iload 8) (n := 2) (pc' := 104) (st' := [.int 0]) rfl rfl ?_
              refine wp_s (i := .iload 6) (n := 2) (pc' := 106) (st' := [.int 0, .int 0]) rfl rfl ?_
              refine wp_s (i := .if_icmp .ge 35) (n := 3) (pc' := 141) (st' := []) rfl rfl ?_
              refine wp_s (i := .aload_n 0) (n := 1) (pc' := 142) (st' := [.ref 0]) rfl rfl ?_
              refine wp_s (i := .iload 7) (n := 2) (pc' := 144) (st' := [.int 1, .ref 0]) rfl rfl ?_
              refine wp_pf (idx := 323) (a := 0) (fs' := [.ref 1, .ref 2, .ref 25, .ref 36, .ref 46, .ref 54, .ref 65, .ref 66, .ref 67, .int 0, .int 1]) (pc' := 147) rfl rfl rfl hb_0 rfl rfl rfl rfl rfl ?_
              refine wp_s (i := .iload 6) (n := 2) (pc' := 149) (st' := [.int 0]) rfl rfl ?_
              refine wp_r (i := .ireturn) (n := 1) (v := some (.int 0)) rfl rfl ?_
              refine ⟨0, rfl, ⟨_, (mm_sn rfl hb_114)⟩, ?_⟩
              show mm_Wp X 12 mm_r189 0 [some (.ref 114), some (.int 2), some (.int w), some (.int u), some (.int z), none, none, none] [] _ _
              refine wp_s (i := .iload_n 1) (n := 1) (pc' := 1) (st' := [.int 2]) rfl rfl ?_
              refine wp_s (i := .i2l) (n := 1) (pc' := 2) (st' := [.long 2]) rfl rfl ?_
              refine wp_s (i := .lconst 0) (n := 1) (pc' := 3) (st' := [.long 0, .long 2]) rfl rfl ?_
              refine wp_s (i := .ldc2_w 285) (n := 3) (pc' := 6) (st' := [.long 3, .long 0, .long 2]) rfl rfl ?_
              refine wp_c (i := .invokestatic 81) (n := 3) (Dq := 11) (r' := mm_r120) (as := [.long 2, .long 0, .long 3]) (rest := []) (ls' := [some (.long 2), none, some (.long 0), none, some (.long 3), none]) rfl rfl rfl ?_
              refine wp_x 16 (v := some (.int 1)) (h' := hp_0.set 0 (.inr (9, [.ref 1, .ref 2, .ref 25, .ref 36, .ref 46, .ref 54, .ref 65, .ref 66, .ref 67, .int 0, .int 1]))) (mm_dec (by decide +kernel)) ?_
              show mm_Wp X 12 mm_r189 9 [some (.ref 114), some (.int 2), some (.int w), some (.int u), some (.int z), none, none, none] [.int 1] _ _
              refine wp_s (i := .ifCond .eq 28) (n := 3) (pc' := 12) (st' := []) rfl rfl ?_
              refine wp_s (i := .iload_n 2) (n := 1) (pc' := 13) (st' := [.int w]) rfl rfl ?_
              refine wp_s (i := .i2l) (n := 1) (pc' := 14) (st' := [.long ((w).toInt64)]) rfl rfl ?_
              refine wp_s (i := .lconst 0) (n := 1) (pc' := 15) (st' := [.long 0, .long ((w).toInt64)]) rfl rfl ?_
              refine wp_s (i := .ldc2_w 198) (n := 3) (pc' := 18) (st' := [.long 2, .long 0, .long ((w).toInt64)]) rfl rfl ?_
              refine wp_c (i := .invokestatic 81) (n := 3) (Dq := 11) (r' := mm_r120) (as := [.long ((w).toInt64), .long 0, .long 2]) (rest := []) (ls' := [some (.long ((w).toInt64)), none, some (.long 0), none, some (.long 2), none]) rfl rfl rfl ?_
              refine wp_s (i := .lload_n 0) (n := 1) (pc' := 1) (st' := [.long ((w).toInt64)]) rfl rfl ?_
              refine wp_s (i := .lload_n 2) (n := 1) (pc' := 2) (st' := [.long 0, .long ((w).toInt64)]) rfl rfl ?_
              refine wp_s (i := .lcmp) (n := 1) (pc' := 3) (st' := [.int (lg_cmp ((w).toInt64) 0)]) rfl rfl ?_
              refine wp_if (t := 17) (st := []) rfl rfl (fun hc19 => ?_) (fun hc19 => ?_)
              · skip
                have q19 : (w).toInt < 0 := by have := lc_t_lt hc19; simpa using this
                exfalso; omega
              · skip
                have q19 : (w).toInt ≥ 0 := by have := lc_f_lt hc19; simpa using this
                show mm_Wp _ _ _ 6 _ _ _ _
                refine wp_s (i := .lload_n 0) (n := 1) (pc' := 7) (st' := [.long ((w).toInt64)]) rfl rfl ?_
                refine wp_s (i := .lload 4) (n := 2) (pc' := 9) (st' := [.long 2, .long ((w).toInt64)]) rfl rfl ?_
                refine wp_s (i := .lcmp) (n := 1) (pc' := 10) (st' := [.int (lg_cmp ((w).toInt64) 2)]) rfl rfl ?_
                refine wp_if (t := 17) (st := []) rfl rfl (fun hc20 => ?_) (fun hc20 => ?_)
                · skip
                  have q20 : (w).toInt > 2 := by have := lc_t_gt hc20; simpa using this
                  exfalso; omega
                · skip
                  have q20 : (w).toInt ≤ 2 := by have := lc_f_gt hc20; simpa using this
                  show mm_Wp _ _ _ 13 _ _ _ _
                  refine wp_s (i := .iconst 1) (n := 1) (pc' := 14) (st' := [.int 1]) rfl rfl ?_
                  refine wp_s (i := .goto 4) (n := 3) (pc' := 18) (st' := [.int 1]) rfl rfl ?_
                  refine wp_r (i := .ireturn) (n := 1) (v := some (.int 1)) rfl rfl ?_
                  show mm_Wp X 12 mm_r189 21 [some (.ref 114), some (.int 2), some (.int w), some (.int u), some (.int z), none, none, none] [.int 1] _ _
                  refine wp_s (i := .ifCond .eq 16) (n := 3) (pc' := 24) (st' := []) rfl rfl ?_
                  refine wp_s (i := .iload 4) (n := 2) (pc' := 26) (st' := [.int z]) rfl rfl ?_
                  refine wp_s (i := .i2l) (n := 1) (pc' := 27) (st' := [.long ((z).toInt64)]) rfl rfl ?_
                  refine wp_s (i := .lconst 0) (n := 1) (pc' := 28) (st' := [.long 0, .long ((z).toInt64)]) rfl rfl ?_
                  refine wp_s (i := .ldc2_w 277) (n := 3) (pc' := 31) (st' := [.long 12, .long 0, .long ((z).toInt64)]) rfl rfl ?_
                  refine wp_c (i := .invokestatic 81) (n := 3) (Dq := 11) (r' := mm_r120) (as := [.long ((z).toInt64), .long 0, .long 12]) (rest := []) (ls' := [some (.long ((z).toInt64)), none, some (.long 0), none, some (.long 12), none]) rfl rfl rfl ?_
                  refine wp_s (i := .lload_n 0) (n := 1) (pc' := 1) (st' := [.long ((z).toInt64)]) rfl rfl ?_
                  refine wp_s (i := .lload_n 2) (n := 1) (pc' := 2) (st' := [.long 0, .long ((z).toInt64)]) rfl rfl ?_
                  refine wp_s (i := .lcmp) (n := 1) (pc' := 3) (st' := [.int (lg_cmp ((z).toInt64) 0)]) rfl rfl ?_
                  refine wp_if (t := 17) (st := []) rfl rfl (fun hc21 => ?_) (fun hc21 => ?_)
                  · skip
                    have q21 : (z).toInt < 0 := by have := lc_t_lt hc21; simpa using this
                    exfalso; omega
                  · skip
                    have q21 : (z).toInt ≥ 0 := by have := lc_f_lt hc21; simpa using this
                    show mm_Wp _ _ _ 6 _ _ _ _
                    refine wp_s (i := .lload_n 0) (n := 1) (pc' := 7) (st' := [.long ((z).toInt64)]) rfl rfl ?_
                    refine wp_s (i := .lload 4) (n := 2) (pc' := 9) (st' := [.long 12, .long ((z).toInt64)]) rfl rfl ?_
                    refine wp_s (i := .lcmp) (n := 1) (pc' := 10) (st' := [.int (lg_cmp ((z).toInt64) 12)]) rfl rfl ?_
                    refine wp_if (t := 17) (st := []) rfl rfl (fun hc22 => ?_) (fun hc22 => ?_)
                    · skip
                      have q22 : (z).toInt > 12 := by have := lc_t_gt hc22; simpa using this
                      exfalso; omega
                    · skip
                      have q22 : (z).toInt ≤ 12 := by have := lc_f_gt hc22; simpa using this
                      show mm_Wp _ _ _ 13 _ _ _ _
                      refine wp_s (i := .iconst 1) (n := 1) (pc' := 14) (st' := [.int 1]) rfl rfl ?_
                      refine wp_s (i := .goto 4) (n := 3) (pc' := 18) (st' := [.int 1]) rfl rfl ?_
                      refine wp_r (i := .ireturn) (n := 1) (v := some (.int 1)) rfl rfl ?_
                      show mm_Wp X 12 mm_r189 34 [some (.ref 114), some (.int 2), some (.int w), some (.int u), some (.int z), none, none, none] [.int 1] _ _
                      refine wp_s (i := .ifCond .ne 5) (n := 3) (pc' := 39) (st' := []) rfl rfl ?_
                      refine wp_s (i := .iconst 0) (n := 1) (pc' := 40) (st' := [.int 0]) rfl rfl ?_
                      refine wp_s (i := .istore 5) (n := 2) (pc' := 42) (ls' := [some (.ref 114), some (.int 2), some (.int w), some (.int u), some (.int z), some (.int 0), none, none]) (st' := []) rfl rfl ?_
                      refine wp_s (i := .iconst 0) (n := 1) (pc' := 43) (st' := [.int 0]) rfl rfl ?_
                      refine wp_s (i := .istore 6) (n := 2) (pc' := 45) (ls' := [some (.ref 114), some (.int 2), some (.int w), some (.int u), some (.int z), some (.int 0), some (.int 0), none]) (st' := []) rfl rfl ?_
                      refine wp_s (i := .iload 6) (n := 2) (pc' := 47) (st' := [.int 0]) rfl rfl ?_
                      refine wp_s (i := .iload 4) (n := 2) (pc' := 49) (st' := [.int z, .int 0]) rfl rfl ?_
                      refine wp_ic (t := 169) (st := []) rfl rfl (fun hc23 => ?_) (fun hc23 => ?_)
                      · skip
                        show mm_Wp _ _ _ 169 _ _ _ _
                        refine wp_s (i := .iconst 0) (n := 1) (pc' := 170) (st' := [.int 0]) rfl rfl ?_
                        refine wp_s (i := .istore 7) (n := 2) (pc' := 172) (ls' := [some (.ref 114), some (.int 2), some (.int w), some (.int u), some (.int z), some (.int 0), some (.int 0), some (.int 0)]) (st' := []) rfl rfl ?_
                        refine wp_s (i := .iload 7) (n := 2) (pc' := 174) (st' := [.int 0]) rfl rfl ?_
                        refine wp_s (i := .iload 6) (n := 2) (pc' := 176) (st' := [.int 0, .int 0]) rfl rfl ?_
                        refine wp_s (i := .if_icmp .ge 29) (n := 3) (pc' := 205) (st' := []) rfl rfl ?_
                        refine wp_s (i := .aload_n 0) (n := 1) (pc' := 206) (st' := [.ref 114]) rfl rfl ?_
                        refine wp_s (i := .iload 5) (n := 2) (pc' := 208) (st' := [.int 0, .ref 114]) rfl rfl ?_
                        refine wp_pf (idx := 287) (a := 114) (fs' := [.ref 115, .int 0, .int 0, .int 0, .int 0, .int 0, .int 0, .ref 116, .ref 117, .ref 118, .ref 119, .ref 120, .ref 121, .ref 122, .ref 123, .ref 124, .ref 125, .int 0, .int 0, .int 0, .int 0, .ref 126, .int 0, .int 0, .int 0, .int 0, .int 0, .int 0, .int 0, .int 0, .ref 127, .ref 128, .ref 129, .ref 130, .int 0, .ref 131, .ref 132, .int 0, .int 0, .int 0, .int 0, .ref 133, .ref 134, .ref 135, .ref 136, .int 0]) (pc' := 211) rfl rfl rfl (mm_sn rfl hb_114) rfl rfl rfl rfl rfl ?_
                        refine wp_s (i := .iload 6) (n := 2) (pc' := 213) (st' := [.int 0]) rfl rfl ?_
                        refine wp_r (i := .ireturn) (n := 1) (v := some (.int 0)) rfl rfl ?_
                        exact ⟨rfl, (pk_okS (pk_okS pk_ok0 hb_0 rfl) (mm_sn rfl hb_114) rfl)⟩
                      · skip
                        show mm_Wp _ _ _ 52 _ _ _ _
                        refine wp_s (i := .iload 5) (n := 2) (pc' := 54) (st' := [.int 0]) rfl rfl ?_
                        refine wp_s (i := .ifCond .ne 115) (n := 3) (pc' := 57) (st' := []) rfl rfl ?_
                        refine wp_s (i := .aload_n 0) (n := 1) (pc' := 58) (st' := [.ref 114]) rfl rfl ?_
                        refine wp_gf (idx := 68) (a := 114) (v := .ref 134) (pc' := 61) rfl rfl (mm_sn rfl hb_114) rfl rfl ?_
                        refine wp_s (i := .iload_n 1) (n := 1) (pc' := 62) (st' := [.int 2, .ref 134]) rfl rfl ?_
                        refine wp_ia (x := (-4)) (pc' := 63) rfl (mm_sn rfl hb_134) rfl rfl rfl ?_
                        refine wp_s (i := .bipush (-4)) (n := 2) (pc' := 65) (st' := [.int (-4), .int (-4)]) rfl rfl ?_
                        refine wp_s (i := .if_icmp .ne 7) (n := 3) (pc' := 68) (st' := []) rfl rfl ?_
                        refine wp_s (i := .iconst 1) (n := 1) (pc' := 69) (st' := [.int 1]) rfl rfl ?_
                        refine wp_s (i := .goto 44) (n := 3) (pc' := 113) (st' := [.int 1]) rfl rfl ?_
                        refine wp_s (i := .istore 5) (n := 2) (pc' := 115) (ls' := [some (.ref 114), some (.int 2), some (.int w), some (.int u), some (.int z), some (.int 1), some (.int 0), none]) (st' := []) rfl rfl ?_
                        refine wp_s (i := .iload 5) (n := 2) (pc' := 117) (st' := [.int 1]) rfl rfl ?_
                        refine wp_s (i := .ifCond .ne 34) (n := 3) (pc' := 151) (st' := []) rfl rfl ?_
                        refine wp_s (i := .iload 6) (n := 2) (pc' := 153) (st' := [.int 0]) rfl rfl ?_
                        refine wp_s (i := .iload 5) (n := 2) (pc' := 155) (st' := [.int 1, .int 0]) rfl rfl ?_
                        refine wp_s (i := .ifCond .ne 7) (n := 3) (pc' := 162) (st' := [.int 0]) rfl rfl ?_
                        refine wp_s (i := .iconst 0) (n := 1) (pc' := 163) (st' := [.int 0, .int 0]) rfl rfl ?_
                        refine wp_s (i := .iadd) (n := 1) (pc' := 164) (st' := [.int 0]) rfl rfl ?_
                        refine wp_s (i := .istore 6) (n := 2) (pc' := 166) (ls' := [some (.ref 114), some (.int 2), some (.int w), some (.int u), some (.int z), some (.int 1), some (.int 0), none]) (st' := []) rfl rfl ?_
                        refine wp_s (i := .goto (-121)) (n := 3) (pc' := 45) (st' := []) rfl rfl ?_
                        refine wp_s (i := .iload 6) (n := 2) (pc' := 47) (st' := [.int 0]) rfl rfl ?_
                        refine wp_s (i := .iload 4) (n := 2) (pc' := 49) (st' := [.int z, .int 0]) rfl rfl ?_
                        refine wp_ic (t := 169) (st := []) rfl rfl (fun hc24 => ?_) (fun hc24 => ?_)
                        · skip
                          show mm_Wp _ _ _ 169 _ _ _ _
                          refine wp_s (i := .iconst 0) (n := 1) (pc' := 170) (st' := [.int 0]) rfl rfl ?_
                          refine wp_s (i := .istore 7) (n := 2) (pc' := 172) (ls' := [some (.ref 114), some (.int 2), some (.int w), some (.int u), some (.int z), some (.int 1), some (.int 0), some (.int 0)]) (st' := []) rfl rfl ?_
                          refine wp_s (i := .iload 7) (n := 2) (pc' := 174) (st' := [.int 0]) rfl rfl ?_
                          refine wp_s (i := .iload 6) (n := 2) (pc' := 176) (st' := [.int 0, .int 0]) rfl rfl ?_
                          refine wp_s (i := .if_icmp .ge 29) (n := 3) (pc' := 205) (st' := []) rfl rfl ?_
                          refine wp_s (i := .aload_n 0) (n := 1) (pc' := 206) (st' := [.ref 114]) rfl rfl ?_
                          refine wp_s (i := .iload 5) (n := 2) (pc' := 208) (st' := [.int 1, .ref 114]) rfl rfl ?_
                          refine wp_pf (idx := 287) (a := 114) (fs' := [.ref 115, .int 0, .int 0, .int 0, .int 0, .int 0, .int 0, .ref 116, .ref 117, .ref 118, .ref 119, .ref 120, .ref 121, .ref 122, .ref 123, .ref 124, .ref 125, .int 0, .int 0, .int 0, .int 0, .ref 126, .int 0, .int 0, .int 0, .int 0, .int 0, .int 0, .int 0, .int 0, .ref 127, .ref 128, .ref 129, .ref 130, .int 0, .ref 131, .ref 132, .int 0, .int 0, .int 0, .int 0, .ref 133, .ref 134, .ref 135, .ref 136, .int 1]) (pc' := 211) rfl rfl rfl (mm_sn rfl hb_114) rfl rfl rfl rfl rfl ?_
                          refine wp_s (i := .iload 6) (n := 2) (pc' := 213) (st' := [.int 0]) rfl rfl ?_
                          refine wp_r (i := .ireturn) (n := 1) (v := some (.int 0)) rfl rfl ?_
                          exact ⟨rfl, (pk_okS (pk_okS pk_ok0 hb_0 rfl) (mm_sn rfl hb_114) rfl)⟩
                        · skip
                          show mm_Wp _ _ _ 52 _ _ _ _
                          refine wp_s (i := .iload 5) (n := 2) (pc' := 54) (st' := [.int 1]) rfl rfl ?_
                          refine wp_s (i := .ifCond .ne 115) (n := 3) (pc' := 169) (st' := []) rfl rfl ?_
                          refine wp_s (i := .iconst 0) (n := 1) (pc' := 170) (st' := [.int 0]) rfl rfl ?_
                          refine wp_s (i := .istore 7) (n := 2) (pc' := 172) (ls' := [some (.ref 114), some (.int 2), some (.int w), some (.int u), some (.int z), some (.int 1), some (.int 0), some (.int 0)]) (st' := []) rfl rfl ?_
                          refine wp_s (i := .iload 7) (n := 2) (pc' := 174) (st' := [.int 0]) rfl rfl ?_
                          refine wp_s (i := .iload 6) (n := 2) (pc' := 176) (st' := [.int 0, .int 0]) rfl rfl ?_
                          refine wp_s (i := .if_icmp .ge 29) (n := 3) (pc' := 205) (st' := []) rfl rfl ?_
                          refine wp_s (i := .aload_n 0) (n := 1) (pc' := 206) (st' := [.ref 114]) rfl rfl ?_
                          refine wp_s (i := .iload 5) (n := 2) (pc' := 208) (st' := [.int 1, .ref 114]) rfl rfl ?_
                          refine wp_pf (idx := 287) (a := 114) (fs' := [.ref 115, .int 0, .int 0, .int 0, .int 0, .int 0, .int 0, .ref 116, .ref 117, .ref 118, .ref 119, .ref 120, .ref 121, .ref 122, .ref 123, .ref 124, .ref 125, .int 0, .int 0, .int 0, .int 0, .ref 126, .int 0, .int 0, .int 0, .int 0, .int 0, .int 0, .int 0, .int 0, .ref 127, .ref 128, .ref 129, .ref 130, .int 0, .ref 131, .ref 132, .int 0, .int 0, .int 0, .int 0, .ref 133, .ref 134, .ref 135, .ref 136, .int 1]) (pc' := 211) rfl rfl rfl (mm_sn rfl hb_114) rfl rfl rfl rfl rfl ?_
                          refine wp_s (i := .iload 6) (n := 2) (pc' := 213) (st' := [.int 0]) rfl rfl ?_
                          refine wp_r (i := .ireturn) (n := 1) (v := some (.int 0)) rfl rfl ?_
                          exact ⟨rfl, (pk_okS (pk_okS pk_ok0 hb_0 rfl) (mm_sn rfl hb_114) rfl)⟩
            · skip
              show mm_Wp _ _ _ 49 _ _ _ _
              refine wp_s (i := .iload 7) (n := 2) (pc' := 51) (st' := [.int 1]) rfl rfl ?_
              refine wp_s (i := .ifCond .ne 48) (n := 3) (pc' := 99) (st' := []) rfl rfl ?_
              refine wp_s (i := .iconst 0) (n := 1) (pc' := 100) (st' := [.int 0]) rfl rfl ?_
              refine wp_s (i := .istore 8) (n := 2) (pc' := 102) (ls' := [some (.ref 0), some (.int 2), some (.int w), some (.int u), some (.int z), some (.ref 110), some (.int 0), some (.int 1), some (.int 0)]) (st' := []) rfl rfl ?_
              refine wp_s (i := .iload 8) (n := 2) (pc' := 104) (st' := [.int 0]) rfl rfl ?_
              refine wp_s (i := .iload 6) (n := 2) (pc' := 106) (st' := [.int 0, .int 0]) rfl rfl ?_
              refine wp_s (i := .if_icmp .ge 35) (n := 3) (pc' := 141) (st' := []) rfl rfl ?_
              refine wp_s (i := .aload_n 0) (n := 1) (pc' := 142) (st' := [.ref 0]) rfl rfl ?_
              refine wp_s (i := .iload 7) (n := 2) (pc' := 144) (st' := [.int 1, .ref 0]) rfl rfl ?_
              refine wp_pf (idx := 323) (a := 0) (fs' := [.ref 1, .ref 2, .ref 25, .ref 36, .ref 46, .ref 54, .ref 65, .ref 66, .ref 67, .int 0, .int 1]) (pc' := 147) rfl rfl rfl hb_0 rfl rfl rfl rfl rfl ?_
              refine wp_s (i := .iload 6) (n := 2) (pc' := 149) (st' := [.int 0]) rfl rfl ?_
              refine wp_r (i := .ireturn) (n := 1) (v := some (.int 0)) rfl rfl ?_
              refine ⟨0, rfl, ⟨_, (mm_sn rfl hb_114)⟩, ?_⟩
              show mm_Wp X 12 mm_r189 0 [some (.ref 114), some (.int 2), some (.int w), some (.int u), some (.int z), none, none, none] [] _ _
              refine wp_s (i := .iload_n 1) (n := 1) (pc' := 1) (st' := [.int 2]) rfl rfl ?_
              refine wp_s (i := .i2l) (n := 1) (pc' := 2) (st' := [.long 2]) rfl rfl ?_
              refine wp_s (i := .lconst 0) (n := 1) (pc' := 3) (st' := [.long 0, .long 2]) rfl rfl ?_
              refine wp_s (i := .ldc2_w 285) (n := 3) (pc' := 6) (st' := [.long 3, .long 0, .long 2]) rfl rfl ?_
              refine wp_c (i := .invokestatic 81) (n := 3) (Dq := 11) (r' := mm_r120) (as := [.long 2, .long 0, .long 3]) (rest := []) (ls' := [some (.long 2), none, some (.long 0), none, some (.long 3), none]) rfl rfl rfl ?_
              refine wp_x 16 (v := some (.int 1)) (h' := hp_0.set 0 (.inr (9, [.ref 1, .ref 2, .ref 25, .ref 36, .ref 46, .ref 54, .ref 65, .ref 66, .ref 67, .int 0, .int 1]))) (mm_dec (by decide +kernel)) ?_
              show mm_Wp X 12 mm_r189 9 [some (.ref 114), some (.int 2), some (.int w), some (.int u), some (.int z), none, none, none] [.int 1] _ _
              refine wp_s (i := .ifCond .eq 28) (n := 3) (pc' := 12) (st' := []) rfl rfl ?_
              refine wp_s (i := .iload_n 2) (n := 1) (pc' := 13) (st' := [.int w]) rfl rfl ?_
              refine wp_s (i := .i2l) (n := 1) (pc' := 14) (st' := [.long ((w).toInt64)]) rfl rfl ?_
              refine wp_s (i := .lconst 0) (n := 1) (pc' := 15) (st' := [.long 0, .long ((w).toInt64)]) rfl rfl ?_
              refine wp_s (i := .ldc2_w 198) (n := 3) (pc' := 18) (st' := [.long 2, .long 0, .long ((w).toInt64)]) rfl rfl ?_
              refine wp_c (i := .invokestatic 81) (n := 3) (Dq := 11) (r' := mm_r120) (as := [.long ((w).toInt64), .long 0, .long 2]) (rest := []) (ls' := [some (.long ((w).toInt64)), none, some (.long 0), none, some (.long 2), none]) rfl rfl rfl ?_
              refine wp_s (i := .lload_n 0) (n := 1) (pc' := 1) (st' := [.long ((w).toInt64)]) rfl rfl ?_
              refine wp_s (i := .lload_n 2) (n := 1) (pc' := 2) (st' := [.long 0, .long ((w).toInt64)]) rfl rfl ?_
              refine wp_s (i := .lcmp) (n := 1) (pc' := 3) (st' := [.int (lg_cmp ((w).toInt64) 0)]) rfl rfl ?_
              refine wp_if (t := 17) (st := []) rfl rfl (fun hc25 => ?_) (fun hc25 => ?_)
              · skip
                have q25 : (w).toInt < 0 := by have := lc_t_lt hc25; simpa using this
                exfalso; omega
              · skip
                have q25 : (w).toInt ≥ 0 := by have := lc_f_lt hc25; simpa using this
                show mm_Wp _ _ _ 6 _ _ _ _
                refine wp_s (i := .lload_n 0) (n := 1) (pc' := 7) (st' := [.long ((w).toInt64)]) rfl rfl ?_
                refine wp_s (i := .lload 4) (n := 2) (pc' := 9) (st' := [.long 2, .long ((w).toInt64)]) rfl rfl ?_
                refine wp_s (i := .lcmp) (n := 1) (pc' := 10) (st' := [.int (lg_cmp ((w).toInt64) 2)]) rfl rfl ?_
                refine wp_if (t := 17) (st := []) rfl rfl (fun hc26 => ?_) (fun hc26 => ?_)
                · skip
                  have q26 : (w).toInt > 2 := by have := lc_t_gt hc26; simpa using this
                  exfalso; omega
                · skip
                  have q26 : (w).toInt ≤ 2 := by have := lc_f_gt hc26; simpa using this
                  show mm_Wp _ _ _ 13 _ _ _ _
                  refine wp_s (i := .iconst 1) (n := 1) (pc' := 14) (st' := [.int 1]) rfl rfl ?_
                  refine wp_s (i := .goto 4) (n := 3) (pc' := 18) (st' := [.int 1]) rfl rfl ?_
                  refine wp_r (i := .ireturn) (n := 1) (v := some (.int 1)) rfl rfl ?_
                  show mm_Wp X 12 mm_r189 21 [some (.ref 114), some (.int 2), some (.int w), some (.int u), some (.int z), none, none, none] [.int 1] _ _
                  refine wp_s (i := .ifCond .eq 16) (n := 3) (pc' := 24) (st' := []) rfl rfl ?_
                  refine wp_s (i := .iload 4) (n := 2) (pc' := 26) (st' := [.int z]) rfl rfl ?_
                  refine wp_s (i := .i2l) (n := 1) (pc' := 27) (st' := [.long ((z).toInt64)]) rfl rfl ?_
                  refine wp_s (i := .lconst 0) (n := 1) (pc' := 28) (st' := [.long 0, .long ((z).toInt64)]) rfl rfl ?_
                  refine wp_s (i := .ldc2_w 277) (n := 3) (pc' := 31) (st' := [.long 12, .long 0, .long ((z).toInt64)]) rfl rfl ?_
                  refine wp_c (i := .invokestatic 81) (n := 3) (Dq := 11) (r' := mm_r120) (as := [.long ((z).toInt64), .long 0, .long 12]) (rest := []) (ls' := [some (.long ((z).toInt64)), none, some (.long 0), none, some (.long 12), none]) rfl rfl rfl ?_
                  refine wp_s (i := .lload_n 0) (n := 1) (pc' := 1) (st' := [.long ((z).toInt64)]) rfl rfl ?_
                  refine wp_s (i := .lload_n 2) (n := 1) (pc' := 2) (st' := [.long 0, .long ((z).toInt64)]) rfl rfl ?_
                  refine wp_s (i := .lcmp) (n := 1) (pc' := 3) (st' := [.int (lg_cmp ((z).toInt64) 0)]) rfl rfl ?_
                  refine wp_if (t := 17) (st := []) rfl rfl (fun hc27 => ?_) (fun hc27 => ?_)
                  · skip
                    have q27 : (z).toInt < 0 := by have := lc_t_lt hc27; simpa using this
                    exfalso; omega
                  · skip
                    have q27 : (z).toInt ≥ 0 := by have := lc_f_lt hc27; simpa using this
                    show mm_Wp _ _ _ 6 _ _ _ _
                    refine wp_s (i := .lload_n 0) (n := 1) (pc' := 7) (st' := [.long ((z).toInt64)]) rfl rfl ?_
                    refine wp_s (i := .lload 4) (n := 2) (pc' := 9) (st' := [.long 12, .long ((z).toInt64)]) rfl rfl ?_
                    refine wp_s (i := .lcmp) (n := 1) (pc' := 10) (st' := [.int (lg_cmp ((z).toInt64) 12)]) rfl rfl ?_
                    refine wp_if (t := 17) (st := []) rfl rfl (fun hc28 => ?_) (fun hc28 => ?_)
                    · skip
                      have q28 : (z).toInt > 12 := by have := lc_t_gt hc28; simpa using this
                      exfalso; omega
                    · skip
                      have q28 : (z).toInt ≤ 12 := by have := lc_f_gt hc28; simpa using this
                      show mm_Wp _ _ _ 13 _ _ _ _
                      refine wp_s (i := .iconst 1) (n := 1) (pc' := 14) (st' := [.int 1]) rfl rfl ?_
                      refine wp_s (i := .goto 4) (n := 3) (pc' := 18) (st' := [.int 1]) rfl rfl ?_
                      refine wp_r (i := .ireturn) (n := 1) (v := some (.int 1)) rfl rfl ?_
                      show mm_Wp X 12 mm_r189 34 [some (.ref 114), some (.int 2), some (.int w), some (.int u), some (.int z), none, none, none] [.int 1] _ _
                      refine wp_s (i := .ifCond .ne 5) (n := 3) (pc' := 39) (st' := []) rfl rfl ?_
                      refine wp_s (i := .iconst 0) (n := 1) (pc' := 40) (st' := [.int 0]) rfl rfl ?_
                      refine wp_s (i := .istore 5) (n := 2) (pc' := 42) (ls' := [some (.ref 114), some (.int 2), some (.int w), some (.int u), some (.int z), some (.int 0), none, none]) (st' := []) rfl rfl ?_
                      refine wp_s (i := .iconst 0) (n := 1) (pc' := 43) (st' := [.int 0]) rfl rfl ?_
                      refine wp_s (i := .istore 6) (n := 2) (pc' := 45) (ls' := [some (.ref 114), some (.int 2), some (.int w), some (.int u), some (.int z), some (.int 0), some (.int 0), none]) (st' := []) rfl rfl ?_
                      refine wp_s (i := .iload 6) (n := 2) (pc' := 47) (st' := [.int 0]) rfl rfl ?_
                      refine wp_s (i := .iload 4) (n := 2) (pc' := 49) (st' := [.int z, .int 0]) rfl rfl ?_
                      refine wp_ic (t := 169) (st := []) rfl rfl (fun hc29 => ?_) (fun hc29 => ?_)
                      · skip
                        show mm_Wp _ _ _ 169 _ _ _ _
                        refine wp_s (i := .iconst 0) (n := 1) (pc' := 170) (st' := [.int 0]) rfl rfl ?_
                        refine wp_s (i := .istore 7) (n := 2) (pc' := 172) (ls' := [some (.ref 114), some (.int 2), some (.int w), some (.int u), some (.int z), some (.int 0), some (.int 0), some (.int 0)]) (st' := []) rfl rfl ?_
                        refine wp_s (i := .iload 7) (n := 2) (pc' := 174) (st' := [.int 0]) rfl rfl ?_
                        refine wp_s (i := .iload 6) (n := 2) (pc' := 176) (st' := [.int 0, .int 0]) rfl rfl ?_
                        refine wp_s (i := .if_icmp .ge 29) (n := 3) (pc' := 205) (st' := []) rfl rfl ?_
                        refine wp_s (i := .aload_n 0) (n := 1) (pc' := 206) (st' := [.ref 114]) rfl rfl ?_
                        refine wp_s (i := .iload 5) (n := 2) (pc' := 208) (st' := [.int 0, .ref 114]) rfl rfl ?_
                        refine wp_pf (idx := 287) (a := 114) (fs' := [.ref 115, .int 0, .int 0, .int 0, .int 0, .int 0, .int 0, .ref 116, .ref 117, .ref 118, .ref 119, .ref 120, .ref 121, .ref 122, .ref 123, .ref 124, .ref 125, .int 0, .int 0, .int 0, .int 0, .ref 126, .int 0, .int 0, .int 0, .int 0, .int 0, .int 0, .int 0, .int 0, .ref 127, .ref 128, .ref 129, .ref 130, .int 0, .ref 131, .ref 132, .int 0, .int 0, .int 0, .int 0, .ref 133, .ref 134, .ref 135, .ref 136, .int 0]) (pc' := 211) rfl rfl rfl (mm_sn rfl hb_114) rfl rfl rfl rfl rfl ?_
                        refine wp_s (i := .iload 6) (n := 2) (pc' := 213) (st' := [.int 0]) rfl rfl ?_
                        refine wp_r (i := .ireturn) (n := 1) (v := some (.int 0)) rfl rfl ?_
                        exact ⟨rfl, (pk_okS (pk_okS pk_ok0 hb_0 rfl) (mm_sn rfl hb_114) rfl)⟩
                      · skip
                        show mm_Wp _ _ _ 52 _ _ _ _
                        refine wp_s (i := .iload 5) (n := 2) (pc' := 54) (st' := [.int 0]) rfl rfl ?_
                        refine wp_s (i := .ifCond .ne 115) (n := 3) (pc' := 57) (st' := []) rfl rfl ?_
                        refine wp_s (i := .aload_n 0) (n := 1) (pc' := 58) (st' := [.ref 114]) rfl rfl ?_
                        refine wp_gf (idx := 68) (a := 114) (v := .ref 134) (pc' := 61) rfl rfl (mm_sn rfl hb_114) rfl rfl ?_
                        refine wp_s (i := .iload_n 1) (n := 1) (pc' := 62) (st' := [.int 2, .ref 134]) rfl rfl ?_
                        refine wp_ia (x := (-4)) (pc' := 63) rfl (mm_sn rfl hb_134) rfl rfl rfl ?_
                        refine wp_s (i := .bipush (-4)) (n := 2) (pc' := 65) (st' := [.int (-4), .int (-4)]) rfl rfl ?_
                        refine wp_s (i := .if_icmp .ne 7) (n := 3) (pc' := 68) (st' := []) rfl rfl ?_
                        refine wp_s (i := .iconst 1) (n := 1) (pc' := 69) (st' := [.int 1]) rfl rfl ?_
                        refine wp_s (i := .goto 44) (n := 3) (pc' := 113) (st' := [.int 1]) rfl rfl ?_
                        refine wp_s (i := .istore 5) (n := 2) (pc' := 115) (ls' := [some (.ref 114), some (.int 2), some (.int w), some (.int u), some (.int z), some (.int 1), some (.int 0), none]) (st' := []) rfl rfl ?_
                        refine wp_s (i := .iload 5) (n := 2) (pc' := 117) (st' := [.int 1]) rfl rfl ?_
                        refine wp_s (i := .ifCond .ne 34) (n := 3) (pc' := 151) (st' := []) rfl rfl ?_
                        refine wp_s (i := .iload 6) (n := 2) (pc' := 153) (st' := [.int 0]) rfl rfl ?_
                        refine wp_s (i := .iload 5) (n := 2) (pc' := 155) (st' := [.int 1, .int 0]) rfl rfl ?_
                        refine wp_s (i := .ifCond .ne 7) (n := 3) (pc' := 162) (st' := [.int 0]) rfl rfl ?_
                        refine wp_s (i := .iconst 0) (n := 1) (pc' := 163) (st' := [.int 0, .int 0]) rfl rfl ?_
                        refine wp_s (i := .iadd) (n := 1) (pc' := 164) (st' := [.int 0]) rfl rfl ?_
                        refine wp_s (i := .istore 6) (n := 2) (pc' := 166) (ls' := [some (.ref 114), some (.int 2), some (.int w), some (.int u), some (.int z), some (.int 1), some (.int 0), none]) (st' := []) rfl rfl ?_
                        refine wp_s (i := .goto (-121)) (n := 3) (pc' := 45) (st' := []) rfl rfl ?_
                        refine wp_s (i := .iload 6) (n := 2) (pc' := 47) (st' := [.int 0]) rfl rfl ?_
                        refine wp_s (i := .iload 4) (n := 2) (pc' := 49) (st' := [.int z, .int 0]) rfl rfl ?_
                        refine wp_ic (t := 169) (st := []) rfl rfl (fun hc30 => ?_) (fun hc30 => ?_)
                        · skip
                          show mm_Wp _ _ _ 169 _ _ _ _
                          refine wp_s (i := .iconst 0) (n := 1) (pc' := 170) (st' := [.int 0]) rfl rfl ?_
                          refine wp_s (i := .istore 7) (n := 2) (pc' := 172) (ls' := [some (.ref 114), some (.int 2), some (.int w), some (.int u), some (.int z), some (.int 1), some (.int 0), some (.int 0)]) (st' := []) rfl rfl ?_
                          refine wp_s (i := .iload 7) (n := 2) (pc' := 174) (st' := [.int 0]) rfl rfl ?_
                          refine wp_s (i := .iload 6) (n := 2) (pc' := 176) (st' := [.int 0, .int 0]) rfl rfl ?_
                          refine wp_s (i := .if_icmp .ge 29) (n := 3) (pc' := 205) (st' := []) rfl rfl ?_
                          refine wp_s (i := .aload_n 0) (n := 1) (pc' := 206) (st' := [.ref 114]) rfl rfl ?_
                          refine wp_s (i := .iload 5) (n := 2) (pc' := 208) (st' := [.int 1, .ref 114]) rfl rfl ?_
                          refine wp_pf (idx := 287) (a := 114) (fs' := [.ref 115, .int 0, .int 0, .int 0, .int 0, .int 0, .int 0, .ref 116, .ref 117, .ref 118, .ref 119, .ref 120, .ref 121, .ref 122, .ref 123, .ref 124, .ref 125, .int 0, .int 0, .int 0, .int 0, .ref 126, .int 0, .int 0, .int 0, .int 0, .int 0, .int 0, .int 0, .int 0, .ref 127, .ref 128, .ref 129, .ref 130, .int 0, .ref 131, .ref 132, .int 0, .int 0, .int 0, .int 0, .ref 133, .ref 134, .ref 135, .ref 136, .int 1]) (pc' := 211) rfl rfl rfl (mm_sn rfl hb_114) rfl rfl rfl rfl rfl ?_
                          refine wp_s (i := .iload 6) (n := 2) (pc' := 213) (st' := [.int 0]) rfl rfl ?_
                          refine wp_r (i := .ireturn) (n := 1) (v := some (.int 0)) rfl rfl ?_
                          exact ⟨rfl, (pk_okS (pk_okS pk_ok0 hb_0 rfl) (mm_sn rfl hb_114) rfl)⟩
                        · skip
                          show mm_Wp _ _ _ 52 _ _ _ _
                          refine wp_s (i := .iload 5) (n := 2) (pc' := 54) (st' := [.int 1]) rfl rfl ?_
                          refine wp_s (i := .ifCond .ne 115) (n := 3) (pc' := 169) (st' := []) rfl rfl ?_
                          refine wp_s (i := .iconst 0) (n := 1) (pc' := 170) (st' := [.int 0]) rfl rfl ?_
                          refine wp_s (i := .istore 7) (n := 2) (pc' := 172) (ls' := [some (.ref 114), some (.int 2), some (.int w), some (.int u), some (.int z), some (.int 1), some (.int 0), some (.int 0)]) (st' := []) rfl rfl ?_
                          refine wp_s (i := .iload 7) (n := 2) (pc' := 174) (st' := [.int 0]) rfl rfl ?_
                          refine wp_s (i := .iload 6) (n := 2) (pc' := 176) (st' := [.int 0, .int 0]) rfl rfl ?_
                          refine wp_s (i := .if_icmp .ge 29) (n := 3) (pc' := 205) (st' := []) rfl rfl ?_
                          refine wp_s (i := .aload_n 0) (n := 1) (pc' := 206) (st' := [.ref 114]) rfl rfl ?_
                          refine wp_s (i := .iload 5) (n := 2) (pc' := 208) (st' := [.int 1, .ref 114]) rfl rfl ?_
                          refine wp_pf (idx := 287) (a := 114) (fs' := [.ref 115, .int 0, .int 0, .int 0, .int 0, .int 0, .int 0, .ref 116, .ref 117, .ref 118, .ref 119, .ref 120, .ref 121, .ref 122, .ref 123, .ref 124, .ref 125, .int 0, .int 0, .int 0, .int 0, .ref 126, .int 0, .int 0, .int 0, .int 0, .int 0, .int 0, .int 0, .int 0, .ref 127, .ref 128, .ref 129, .ref 130, .int 0, .ref 131, .ref 132, .int 0, .int 0, .int 0, .int 0, .ref 133, .ref 134, .ref 135, .ref 136, .int 1]) (pc' := 211) rfl rfl rfl (mm_sn rfl hb_114) rfl rfl rfl rfl rfl ?_
                          refine wp_s (i := .iload 6) (n := 2) (pc' := 213) (st' := [.int 0]) rfl rfl ?_
                          refine wp_r (i := .ireturn) (n := 1) (v := some (.int 0)) rfl rfl ?_
                          exact ⟨rfl, (pk_okS (pk_okS pk_ok0 hb_0 rfl) (mm_sn rfl hb_114) rfl)⟩
        · skip
          have q10 : (z).toInt > 12 := by have := mc_f_le hc10; simpa using this
          show mm_Wp _ _ _ 26 _ _ _ _
          refine wp_s (i := .iconst (-1)) (n := 1) (pc' := 27) (st' := [.int (-1)]) rfl rfl ?_
          refine wp_r (i := .ireturn) (n := 1) (v := some (.int (-1))) rfl rfl ?_
          refine ⟨(-1), rfl, ⟨_, hb_114⟩, ?_⟩
          show mm_Wp X 12 mm_r189 0 [some (.ref 114), some (.int 2), some (.int w), some (.int u), some (.int z), none, none, none] [] _ _
          refine wp_s (i := .iload_n 1) (n := 1) (pc' := 1) (st' := [.int 2]) rfl rfl ?_
          refine wp_s (i := .i2l) (n := 1) (pc' := 2) (st' := [.long 2]) rfl rfl ?_
          refine wp_s (i := .lconst 0) (n := 1) (pc' := 3) (st' := [.long 0, .long 2]) rfl rfl ?_
          refine wp_s (i := .ldc2_w 285) (n := 3) (pc' := 6) (st' := [.long 3, .long 0, .long 2]) rfl rfl ?_
          refine wp_c (i := .invokestatic 81) (n := 3) (Dq := 11) (r' := mm_r120) (as := [.long 2, .long 0, .long 3]) (rest := []) (ls' := [some (.long 2), none, some (.long 0), none, some (.long 3), none]) rfl rfl rfl ?_
          refine wp_x 16 (v := some (.int 1)) (h' := hp_0) (mm_dec (by decide +kernel)) ?_
          show mm_Wp X 12 mm_r189 9 [some (.ref 114), some (.int 2), some (.int w), some (.int u), some (.int z), none, none, none] [.int 1] _ _
          refine wp_s (i := .ifCond .eq 28) (n := 3) (pc' := 12) (st' := []) rfl rfl ?_
          refine wp_s (i := .iload_n 2) (n := 1) (pc' := 13) (st' := [.int w]) rfl rfl ?_
          refine wp_s (i := .i2l) (n := 1) (pc' := 14) (st' := [.long ((w).toInt64)]) rfl rfl ?_
          refine wp_s (i := .lconst 0) (n := 1) (pc' := 15) (st' := [.long 0, .long ((w).toInt64)]) rfl rfl ?_
          refine wp_s (i := .ldc2_w 198) (n := 3) (pc' := 18) (st' := [.long 2, .long 0, .long ((w).toInt64)]) rfl rfl ?_
          refine wp_c (i := .invokestatic 81) (n := 3) (Dq := 11) (r' := mm_r120) (as := [.long ((w).toInt64), .long 0, .long 2]) (rest := []) (ls' := [some (.long ((w).toInt64)), none, some (.long 0), none, some (.long 2), none]) rfl rfl rfl ?_
          refine wp_s (i := .lload_n 0) (n := 1) (pc' := 1) (st' := [.long ((w).toInt64)]) rfl rfl ?_
          refine wp_s (i := .lload_n 2) (n := 1) (pc' := 2) (st' := [.long 0, .long ((w).toInt64)]) rfl rfl ?_
          refine wp_s (i := .lcmp) (n := 1) (pc' := 3) (st' := [.int (lg_cmp ((w).toInt64) 0)]) rfl rfl ?_
          refine wp_if (t := 17) (st := []) rfl rfl (fun hc31 => ?_) (fun hc31 => ?_)
          · skip
            have q31 : (w).toInt < 0 := by have := lc_t_lt hc31; simpa using this
            exfalso; omega
          · skip
            have q31 : (w).toInt ≥ 0 := by have := lc_f_lt hc31; simpa using this
            show mm_Wp _ _ _ 6 _ _ _ _
            refine wp_s (i := .lload_n 0) (n := 1) (pc' := 7) (st' := [.long ((w).toInt64)]) rfl rfl ?_
            refine wp_s (i := .lload 4) (n := 2) (pc' := 9) (st' := [.long 2, .long ((w).toInt64)]) rfl rfl ?_
            refine wp_s (i := .lcmp) (n := 1) (pc' := 10) (st' := [.int (lg_cmp ((w).toInt64) 2)]) rfl rfl ?_
            refine wp_if (t := 17) (st := []) rfl rfl (fun hc32 => ?_) (fun hc32 => ?_)
            · skip
              have q32 : (w).toInt > 2 := by have := lc_t_gt hc32; simpa using this
              exfalso; omega
            · skip
              have q32 : (w).toInt ≤ 2 := by have := lc_f_gt hc32; simpa using this
              show mm_Wp _ _ _ 13 _ _ _ _
              refine wp_s (i := .iconst 1) (n := 1) (pc' := 14) (st' := [.int 1]) rfl rfl ?_
              refine wp_s (i := .goto 4) (n := 3) (pc' := 18) (st' := [.int 1]) rfl rfl ?_
              refine wp_r (i := .ireturn) (n := 1) (v := some (.int 1)) rfl rfl ?_
              show mm_Wp X 12 mm_r189 21 [some (.ref 114), some (.int 2), some (.int w), some (.int u), some (.int z), none, none, none] [.int 1] _ _
              refine wp_s (i := .ifCond .eq 16) (n := 3) (pc' := 24) (st' := []) rfl rfl ?_
              refine wp_s (i := .iload 4) (n := 2) (pc' := 26) (st' := [.int z]) rfl rfl ?_
              refine wp_s (i := .i2l) (n := 1) (pc' := 27) (st' := [.long ((z).toInt64)]) rfl rfl ?_
              refine wp_s (i := .lconst 0) (n := 1) (pc' := 28) (st' := [.long 0, .long ((z).toInt64)]) rfl rfl ?_
              refine wp_s (i := .ldc2_w 277) (n := 3) (pc' := 31) (st' := [.long 12, .long 0, .long ((z).toInt64)]) rfl rfl ?_
              refine wp_c (i := .invokestatic 81) (n := 3) (Dq := 11) (r' := mm_r120) (as := [.long ((z).toInt64), .long 0, .long 12]) (rest := []) (ls' := [some (.long ((z).toInt64)), none, some (.long 0), none, some (.long 12), none]) rfl rfl rfl ?_
              refine wp_s (i := .lload_n 0) (n := 1) (pc' := 1) (st' := [.long ((z).toInt64)]) rfl rfl ?_
              refine wp_s (i := .lload_n 2) (n := 1) (pc' := 2) (st' := [.long 0, .long ((z).toInt64)]) rfl rfl ?_
              refine wp_s (i := .lcmp) (n := 1) (pc' := 3) (st' := [.int (lg_cmp ((z).toInt64) 0)]) rfl rfl ?_
              refine wp_if (t := 17) (st := []) rfl rfl (fun hc33 => ?_) (fun hc33 => ?_)
              · skip
                have q33 : (z).toInt < 0 := by have := lc_t_lt hc33; simpa using this
                exfalso; omega
              · skip
                have q33 : (z).toInt ≥ 0 := by have := lc_f_lt hc33; simpa using this
                show mm_Wp _ _ _ 6 _ _ _ _
                refine wp_s (i := .lload_n 0) (n := 1) (pc' := 7) (st' := [.long ((z).toInt64)]) rfl rfl ?_
                refine wp_s (i := .lload 4) (n := 2) (pc' := 9) (st' := [.long 12, .long ((z).toInt64)]) rfl rfl ?_
                refine wp_s (i := .lcmp) (n := 1) (pc' := 10) (st' := [.int (lg_cmp ((z).toInt64) 12)]) rfl rfl ?_
                refine wp_if (t := 17) (st := []) rfl rfl (fun hc34 => ?_) (fun hc34 => ?_)
                · skip
                  have q34 : (z).toInt > 12 := by have := lc_t_gt hc34; simpa using this
                  show mm_Wp _ _ _ 17 _ _ _ _
                  refine wp_s (i := .iconst 0) (n := 1) (pc' := 18) (st' := [.int 0]) rfl rfl ?_
                  refine wp_r (i := .ireturn) (n := 1) (v := some (.int 0)) rfl rfl ?_
                  show mm_Wp X 12 mm_r189 34 [some (.ref 114), some (.int 2), some (.int w), some (.int u), some (.int z), none, none, none] [.int 0] _ _
                  refine wp_s (i := .ifCond .ne 5) (n := 3) (pc' := 37) (st' := []) rfl rfl ?_
                  refine wp_s (i := .iconst (-1)) (n := 1) (pc' := 38) (st' := [.int (-1)]) rfl rfl ?_
                  refine wp_r (i := .ireturn) (n := 1) (v := some (.int (-1))) rfl rfl ?_
                  exact ⟨rfl, pk_ok0⟩
                · skip
                  have q34 : (z).toInt ≤ 12 := by have := lc_f_gt hc34; simpa using this
                  exfalso; omega
set_option maxRecDepth 20000 in
set_option maxHeartbeats 4000000 in
theorem pk_35_3 (X : Option (List Int32)) (w u z : Int32) : mm_Wp X 12 mm_r100 0 [some (.ref 0), some (.int 3), some (.int w), some (.int u), some (.int z), none, none, none, none] [] hp_0 (fun v1 h1 => ∃ x : Int32, v1 = some (.int x) ∧ (∃ fs, h1[114]? = some (.inr (10, fs))) ∧ mm_Wp X 12 mm_r189 0 [some (.ref 114), some (.int 3), some (.int w), some (.int u), some (.int z), none, none, none] [] h1 (fun v2 h2 => v2 = some (.int x) ∧ pk_ok h2)) := by
  refine wp_s (i := .iload_n 1) (n := 1) (pc' := 1) (st' := [.int 3]) rfl rfl ?_
  refine wp_c (i := .invokestatic 301) (n := 3) (Dq := 11) (r' := mm_r107) (as := [.int 3]) (rest := []) (ls' := [some (.int 3)]) rfl rfl rfl ?_
  refine wp_x 13 (v := some (.int 1)) (h' := hp_0) (mm_dec (by decide +kernel)) ?_
  show mm_Wp X 12 mm_r100 4 [some (.ref 0), some (.int 3), some (.int w), some (.int u), some (.int z), none, none, none, none] [.int 1] _ _
  refine wp_s (i := .ifCond .eq 22) (n := 3) (pc' := 7) (st' := []) rfl rfl ?_
  refine wp_s (i := .iload_n 2) (n := 1) (pc' := 8) (st' := [.int w]) rfl rfl ?_
  refine wp_c (i := .invokestatic 304) (n := 3) (Dq := 11) (r' := mm_r108) (as := [.int w]) (rest := []) (ls' := [some (.int w)]) rfl rfl rfl ?_
  refine wp_s (i := .iload_n 0) (n := 1) (pc' := 1) (st' := [.int w]) rfl rfl ?_
  refine wp_if (t := 13) (st := []) rfl rfl (fun hc1 => ?_) (fun hc1 => ?_)
  · skip
    have q1 : (w).toInt < 0 := by have := mc_t_lt hc1; simpa using this
    show mm_Wp _ _ _ 13 _ _ _ _
    refine wp_s (i := .iconst 0) (n := 1) (pc' := 14) (st' := [.int 0]) rfl rfl ?_
    refine wp_r (i := .ireturn) (n := 1) (v := some (.int 0)) rfl rfl ?_
    show mm_Wp X 12 mm_r100 11 [some (.ref 0), some (.int 3), some (.int w), some (.int u), some (.int z), none, none, none, none] [.int 0] _ _
    refine wp_s (i := .ifCond .eq 15) (n := 3) (pc' := 26) (st' := []) rfl rfl ?_
    refine wp_s (i := .iconst (-1)) (n := 1) (pc' := 27) (st' := [.int (-1)]) rfl rfl ?_
    refine wp_r (i := .ireturn) (n := 1) (v := some (.int (-1))) rfl rfl ?_
    refine ⟨(-1), rfl, ⟨_, hb_114⟩, ?_⟩
    show mm_Wp X 12 mm_r189 0 [some (.ref 114), some (.int 3), some (.int w), some (.int u), some (.int z), none, none, none] [] _ _
    refine wp_s (i := .iload_n 1) (n := 1) (pc' := 1) (st' := [.int 3]) rfl rfl ?_
    refine wp_s (i := .i2l) (n := 1) (pc' := 2) (st' := [.long 3]) rfl rfl ?_
    refine wp_s (i := .lconst 0) (n := 1) (pc' := 3) (st' := [.long 0, .long 3]) rfl rfl ?_
    refine wp_s (i := .ldc2_w 285) (n := 3) (pc' := 6) (st' := [.long 3, .long 0, .long 3]) rfl rfl ?_
    refine wp_c (i := .invokestatic 81) (n := 3) (Dq := 11) (r' := mm_r120) (as := [.long 3, .long 0, .long 3]) (rest := []) (ls' := [some (.long 3), none, some (.long 0), none, some (.long 3), none]) rfl rfl rfl ?_
    refine wp_x 16 (v := some (.int 1)) (h' := hp_0) (mm_dec (by decide +kernel)) ?_
    show mm_Wp X 12 mm_r189 9 [some (.ref 114), some (.int 3), some (.int w), some (.int u), some (.int z), none, none, none] [.int 1] _ _
    refine wp_s (i := .ifCond .eq 28) (n := 3) (pc' := 12) (st' := []) rfl rfl ?_
    refine wp_s (i := .iload_n 2) (n := 1) (pc' := 13) (st' := [.int w]) rfl rfl ?_
    refine wp_s (i := .i2l) (n := 1) (pc' := 14) (st' := [.long ((w).toInt64)]) rfl rfl ?_
    refine wp_s (i := .lconst 0) (n := 1) (pc' := 15) (st' := [.long 0, .long ((w).toInt64)]) rfl rfl ?_
    refine wp_s (i := .ldc2_w 198) (n := 3) (pc' := 18) (st' := [.long 2, .long 0, .long ((w).toInt64)]) rfl rfl ?_
    refine wp_c (i := .invokestatic 81) (n := 3) (Dq := 11) (r' := mm_r120) (as := [.long ((w).toInt64), .long 0, .long 2]) (rest := []) (ls' := [some (.long ((w).toInt64)), none, some (.long 0), none, some (.long 2), none]) rfl rfl rfl ?_
    refine wp_s (i := .lload_n 0) (n := 1) (pc' := 1) (st' := [.long ((w).toInt64)]) rfl rfl ?_
    refine wp_s (i := .lload_n 2) (n := 1) (pc' := 2) (st' := [.long 0, .long ((w).toInt64)]) rfl rfl ?_
    refine wp_s (i := .lcmp) (n := 1) (pc' := 3) (st' := [.int (lg_cmp ((w).toInt64) 0)]) rfl rfl ?_
    refine wp_if (t := 17) (st := []) rfl rfl (fun hc2 => ?_) (fun hc2 => ?_)
    · skip
      have q2 : (w).toInt < 0 := by have := lc_t_lt hc2; simpa using this
      show mm_Wp _ _ _ 17 _ _ _ _
      refine wp_s (i := .iconst 0) (n := 1) (pc' := 18) (st' := [.int 0]) rfl rfl ?_
      refine wp_r (i := .ireturn) (n := 1) (v := some (.int 0)) rfl rfl ?_
      show mm_Wp X 12 mm_r189 21 [some (.ref 114), some (.int 3), some (.int w), some (.int u), some (.int z), none, none, none] [.int 0] _ _
      refine wp_s (i := .ifCond .eq 16) (n := 3) (pc' := 37) (st' := []) rfl rfl ?_
      refine wp_s (i := .iconst (-1)) (n := 1) (pc' := 38) (st' := [.int (-1)]) rfl rfl ?_
      refine wp_r (i := .ireturn) (n := 1) (v := some (.int (-1))) rfl rfl ?_
      exact ⟨rfl, pk_ok0⟩
    · skip
      have q2 : (w).toInt ≥ 0 := by have := lc_f_lt hc2; simpa using this
      exfalso; omega
  · skip
    have q1 : (w).toInt ≥ 0 := by have := mc_f_lt hc1; simpa using this
    show mm_Wp _ _ _ 4 _ _ _ _
    refine wp_s (i := .iload_n 0) (n := 1) (pc' := 5) (st' := [.int w]) rfl rfl ?_
    refine wp_s (i := .iconst 3) (n := 1) (pc' := 6) (st' := [.int 3, .int w]) rfl rfl ?_
    refine wp_ic (t := 13) (st := []) rfl rfl (fun hc3 => ?_) (fun hc3 => ?_)
    · skip
      have q3 : (w).toInt ≥ 3 := by have := mc_t_ge hc3; simpa using this
      show mm_Wp _ _ _ 13 _ _ _ _
      refine wp_s (i := .iconst 0) (n := 1) (pc' := 14) (st' := [.int 0]) rfl rfl ?_
      refine wp_r (i := .ireturn) (n := 1) (v := some (.int 0)) rfl rfl ?_
      show mm_Wp X 12 mm_r100 11 [some (.ref 0), some (.int 3), some (.int w), some (.int u), some (.int z), none, none, none, none] [.int 0] _ _
      refine wp_s (i := .ifCond .eq 15) (n := 3) (pc' := 26) (st' := []) rfl rfl ?_
      refine wp_s (i := .iconst (-1)) (n := 1) (pc' := 27) (st' := [.int (-1)]) rfl rfl ?_
      refine wp_r (i := .ireturn) (n := 1) (v := some (.int (-1))) rfl rfl ?_
      refine ⟨(-1), rfl, ⟨_, hb_114⟩, ?_⟩
      show mm_Wp X 12 mm_r189 0 [some (.ref 114), some (.int 3), some (.int w), some (.int u), some (.int z), none, none, none] [] _ _
      refine wp_s (i := .iload_n 1) (n := 1) (pc' := 1) (st' := [.int 3]) rfl rfl ?_
      refine wp_s (i := .i2l) (n := 1) (pc' := 2) (st' := [.long 3]) rfl rfl ?_
      refine wp_s (i := .lconst 0) (n := 1) (pc' := 3) (st' := [.long 0, .long 3]) rfl rfl ?_
      refine wp_s (i := .ldc2_w 285) (n := 3) (pc' := 6) (st' := [.long 3, .long 0, .long 3]) rfl rfl ?_
      refine wp_c (i := .invokestatic 81) (n := 3) (Dq := 11) (r' := mm_r120) (as := [.long 3, .long 0, .long 3]) (rest := []) (ls' := [some (.long 3), none, some (.long 0), none, some (.long 3), none]) rfl rfl rfl ?_
      refine wp_x 16 (v := some (.int 1)) (h' := hp_0) (mm_dec (by decide +kernel)) ?_
      show mm_Wp X 12 mm_r189 9 [some (.ref 114), some (.int 3), some (.int w), some (.int u), some (.int z), none, none, none] [.int 1] _ _
      refine wp_s (i := .ifCond .eq 28) (n := 3) (pc' := 12) (st' := []) rfl rfl ?_
      refine wp_s (i := .iload_n 2) (n := 1) (pc' := 13) (st' := [.int w]) rfl rfl ?_
      refine wp_s (i := .i2l) (n := 1) (pc' := 14) (st' := [.long ((w).toInt64)]) rfl rfl ?_
      refine wp_s (i := .lconst 0) (n := 1) (pc' := 15) (st' := [.long 0, .long ((w).toInt64)]) rfl rfl ?_
      refine wp_s (i := .ldc2_w 198) (n := 3) (pc' := 18) (st' := [.long 2, .long 0, .long ((w).toInt64)]) rfl rfl ?_
      refine wp_c (i := .invokestatic 81) (n := 3) (Dq := 11) (r' := mm_r120) (as := [.long ((w).toInt64), .long 0, .long 2]) (rest := []) (ls' := [some (.long ((w).toInt64)), none, some (.long 0), none, some (.long 2), none]) rfl rfl rfl ?_
      refine wp_s (i := .lload_n 0) (n := 1) (pc' := 1) (st' := [.long ((w).toInt64)]) rfl rfl ?_
      refine wp_s (i := .lload_n 2) (n := 1) (pc' := 2) (st' := [.long 0, .long ((w).toInt64)]) rfl rfl ?_
      refine wp_s (i := .lcmp) (n := 1) (pc' := 3) (st' := [.int (lg_cmp ((w).toInt64) 0)]) rfl rfl ?_
      refine wp_if (t := 17) (st := []) rfl rfl (fun hc4 => ?_) (fun hc4 => ?_)
      · skip
        have q4 : (w).toInt < 0 := by have := lc_t_lt hc4; simpa using this
        exfalso; omega
      · skip
        have q4 : (w).toInt ≥ 0 := by have := lc_f_lt hc4; simpa using this
        show mm_Wp _ _ _ 6 _ _ _ _
        refine wp_s (i := .lload_n 0) (n := 1) (pc' := 7) (st' := [.long ((w).toInt64)]) rfl rfl ?_
        refine wp_s (i := .lload 4) (n := 2) (pc' := 9) (st' := [.long 2, .long ((w).toInt64)]) rfl rfl ?_
        refine wp_s (i := .lcmp) (n := 1) (pc' := 10) (st' := [.int (lg_cmp ((w).toInt64) 2)]) rfl rfl ?_
        refine wp_if (t := 17) (st := []) rfl rfl (fun hc5 => ?_) (fun hc5 => ?_)
        · skip
          have q5 : (w).toInt > 2 := by have := lc_t_gt hc5; simpa using this
          show mm_Wp _ _ _ 17 _ _ _ _
          refine wp_s (i := .iconst 0) (n := 1) (pc' := 18) (st' := [.int 0]) rfl rfl ?_
          refine wp_r (i := .ireturn) (n := 1) (v := some (.int 0)) rfl rfl ?_
          show mm_Wp X 12 mm_r189 21 [some (.ref 114), some (.int 3), some (.int w), some (.int u), some (.int z), none, none, none] [.int 0] _ _
          refine wp_s (i := .ifCond .eq 16) (n := 3) (pc' := 37) (st' := []) rfl rfl ?_
          refine wp_s (i := .iconst (-1)) (n := 1) (pc' := 38) (st' := [.int (-1)]) rfl rfl ?_
          refine wp_r (i := .ireturn) (n := 1) (v := some (.int (-1))) rfl rfl ?_
          exact ⟨rfl, pk_ok0⟩
        · skip
          have q5 : (w).toInt ≤ 2 := by have := lc_f_gt hc5; simpa using this
          exfalso; omega
    · skip
      have q3 : (w).toInt < 3 := by have := mc_f_ge hc3; simpa using this
      show mm_Wp _ _ _ 9 _ _ _ _
      refine wp_s (i := .iconst 1) (n := 1) (pc' := 10) (st' := [.int 1]) rfl rfl ?_
      refine wp_s (i := .goto 4) (n := 3) (pc' := 14) (st' := [.int 1]) rfl rfl ?_
      refine wp_r (i := .ireturn) (n := 1) (v := some (.int 1)) rfl rfl ?_
      show mm_Wp X 12 mm_r100 11 [some (.ref 0), some (.int 3), some (.int w), some (.int u), some (.int z), none, none, none, none] [.int 1] _ _
      refine wp_s (i := .ifCond .eq 15) (n := 3) (pc' := 14) (st' := []) rfl rfl ?_
      refine wp_s (i := .iload 4) (n := 2) (pc' := 16) (st' := [.int z]) rfl rfl ?_
      refine wp_if (t := 26) (st := []) rfl rfl (fun hc6 => ?_) (fun hc6 => ?_)
      · skip
        have q6 : (z).toInt < 0 := by have := mc_t_lt hc6; simpa using this
        show mm_Wp _ _ _ 26 _ _ _ _
        refine wp_s (i := .iconst (-1)) (n := 1) (pc' := 27) (st' := [.int (-1)]) rfl rfl ?_
        refine wp_r (i := .ireturn) (n := 1) (v := some (.int (-1))) rfl rfl ?_
        refine ⟨(-1), rfl, ⟨_, hb_114⟩, ?_⟩
        show mm_Wp X 12 mm_r189 0 [some (.ref 114), some (.int 3), some (.int w), some (.int u), some (.int z), none, none, none] [] _ _
        refine wp_s (i := .iload_n 1) (n := 1) (pc' := 1) (st' := [.int 3]) rfl rfl ?_
        refine wp_s (i := .i2l) (n := 1) (pc' := 2) (st' := [.long 3]) rfl rfl ?_
        refine wp_s (i := .lconst 0) (n := 1) (pc' := 3) (st' := [.long 0, .long 3]) rfl rfl ?_
        refine wp_s (i := .ldc2_w 285) (n := 3) (pc' := 6) (st' := [.long 3, .long 0, .long 3]) rfl rfl ?_
        refine wp_c (i := .invokestatic 81) (n := 3) (Dq := 11) (r' := mm_r120) (as := [.long 3, .long 0, .long 3]) (rest := []) (ls' := [some (.long 3), none, some (.long 0), none, some (.long 3), none]) rfl rfl rfl ?_
        refine wp_x 16 (v := some (.int 1)) (h' := hp_0) (mm_dec (by decide +kernel)) ?_
        show mm_Wp X 12 mm_r189 9 [some (.ref 114), some (.int 3), some (.int w), some (.int u), some (.int z), none, none, none] [.int 1] _ _
        refine wp_s (i := .ifCond .eq 28) (n := 3) (pc' := 12) (st' := []) rfl rfl ?_
        refine wp_s (i := .iload_n 2) (n := 1) (pc' := 13) (st' := [.int w]) rfl rfl ?_
        refine wp_s (i := .i2l) (n := 1) (pc' := 14) (st' := [.long ((w).toInt64)]) rfl rfl ?_
        refine wp_s (i := .lconst 0) (n := 1) (pc' := 15) (st' := [.long 0, .long ((w).toInt64)]) rfl rfl ?_
        refine wp_s (i := .ldc2_w 198) (n := 3) (pc' := 18) (st' := [.long 2, .long 0, .long ((w).toInt64)]) rfl rfl ?_
        refine wp_c (i := .invokestatic 81) (n := 3) (Dq := 11) (r' := mm_r120) (as := [.long ((w).toInt64), .long 0, .long 2]) (rest := []) (ls' := [some (.long ((w).toInt64)), none, some (.long 0), none, some (.long 2), none]) rfl rfl rfl ?_
        refine wp_s (i := .lload_n 0) (n := 1) (pc' := 1) (st' := [.long ((w).toInt64)]) rfl rfl ?_
        refine wp_s (i := .lload_n 2) (n := 1) (pc' := 2) (st' := [.long 0, .long ((w).toInt64)]) rfl rfl ?_
        refine wp_s (i := .lcmp) (n := 1) (pc' := 3) (st' := [.int (lg_cmp ((w).toInt64) 0)]) rfl rfl ?_
        refine wp_if (t := 17) (st := []) rfl rfl (fun hc7 => ?_) (fun hc7 => ?_)
        · skip
          have q7 : (w).toInt < 0 := by have := lc_t_lt hc7; simpa using this
          exfalso; omega
        · skip
          have q7 : (w).toInt ≥ 0 := by have := lc_f_lt hc7; simpa using this
          show mm_Wp _ _ _ 6 _ _ _ _
          refine wp_s (i := .lload_n 0) (n := 1) (pc' := 7) (st' := [.long ((w).toInt64)]) rfl rfl ?_
          refine wp_s (i := .lload 4) (n := 2) (pc' := 9) (st' := [.long 2, .long ((w).toInt64)]) rfl rfl ?_
          refine wp_s (i := .lcmp) (n := 1) (pc' := 10) (st' := [.int (lg_cmp ((w).toInt64) 2)]) rfl rfl ?_
          refine wp_if (t := 17) (st := []) rfl rfl (fun hc8 => ?_) (fun hc8 => ?_)
          · skip
            have q8 : (w).toInt > 2 := by have := lc_t_gt hc8; simpa using this
            exfalso; omega
          · skip
            have q8 : (w).toInt ≤ 2 := by have := lc_f_gt hc8; simpa using this
            show mm_Wp _ _ _ 13 _ _ _ _
            refine wp_s (i := .iconst 1) (n := 1) (pc' := 14) (st' := [.int 1]) rfl rfl ?_
            refine wp_s (i := .goto 4) (n := 3) (pc' := 18) (st' := [.int 1]) rfl rfl ?_
            refine wp_r (i := .ireturn) (n := 1) (v := some (.int 1)) rfl rfl ?_
            show mm_Wp X 12 mm_r189 21 [some (.ref 114), some (.int 3), some (.int w), some (.int u), some (.int z), none, none, none] [.int 1] _ _
            refine wp_s (i := .ifCond .eq 16) (n := 3) (pc' := 24) (st' := []) rfl rfl ?_
            refine wp_s (i := .iload 4) (n := 2) (pc' := 26) (st' := [.int z]) rfl rfl ?_
            refine wp_s (i := .i2l) (n := 1) (pc' := 27) (st' := [.long ((z).toInt64)]) rfl rfl ?_
            refine wp_s (i := .lconst 0) (n := 1) (pc' := 28) (st' := [.long 0, .long ((z).toInt64)]) rfl rfl ?_
            refine wp_s (i := .ldc2_w 277) (n := 3) (pc' := 31) (st' := [.long 12, .long 0, .long ((z).toInt64)]) rfl rfl ?_
            refine wp_c (i := .invokestatic 81) (n := 3) (Dq := 11) (r' := mm_r120) (as := [.long ((z).toInt64), .long 0, .long 12]) (rest := []) (ls' := [some (.long ((z).toInt64)), none, some (.long 0), none, some (.long 12), none]) rfl rfl rfl ?_
            refine wp_s (i := .lload_n 0) (n := 1) (pc' := 1) (st' := [.long ((z).toInt64)]) rfl rfl ?_
            refine wp_s (i := .lload_n 2) (n := 1) (pc' := 2) (st' := [.long 0, .long ((z).toInt64)]) rfl rfl ?_
            refine wp_s (i := .lcmp) (n := 1) (pc' := 3) (st' := [.int (lg_cmp ((z).toInt64) 0)]) rfl rfl ?_
            refine wp_if (t := 17) (st := []) rfl rfl (fun hc9 => ?_) (fun hc9 => ?_)
            · skip
              have q9 : (z).toInt < 0 := by have := lc_t_lt hc9; simpa using this
              show mm_Wp _ _ _ 17 _ _ _ _
              refine wp_s (i := .iconst 0) (n := 1) (pc' := 18) (st' := [.int 0]) rfl rfl ?_
              refine wp_r (i := .ireturn) (n := 1) (v := some (.int 0)) rfl rfl ?_
              show mm_Wp X 12 mm_r189 34 [some (.ref 114), some (.int 3), some (.int w), some (.int u), some (.int z), none, none, none] [.int 0] _ _
              refine wp_s (i := .ifCond .ne 5) (n := 3) (pc' := 37) (st' := []) rfl rfl ?_
              refine wp_s (i := .iconst (-1)) (n := 1) (pc' := 38) (st' := [.int (-1)]) rfl rfl ?_
              refine wp_r (i := .ireturn) (n := 1) (v := some (.int (-1))) rfl rfl ?_
              exact ⟨rfl, pk_ok0⟩
            · skip
              have q9 : (z).toInt ≥ 0 := by have := lc_f_lt hc9; simpa using this
              exfalso; omega
      · skip
        have q6 : (z).toInt ≥ 0 := by have := mc_f_lt hc6; simpa using this
        show mm_Wp _ _ _ 19 _ _ _ _
        refine wp_s (i := .iload 4) (n := 2) (pc' := 21) (st' := [.int z]) rfl rfl ?_
        refine wp_s (i := .bipush 12) (n := 2) (pc' := 23) (st' := [.int 12, .int z]) rfl rfl ?_
        refine wp_ic (t := 28) (st := []) rfl rfl (fun hc10 => ?_) (fun hc10 => ?_)
        · skip
          have q10 : (z).toInt ≤ 12 := by have := mc_t_le hc10; simpa using this
          show mm_Wp _ _ _ 28 _ _ _ _
          refine wp_s (i := .aload_n 0) (n := 1) (pc' := 29) (st' := [.ref 0]) rfl rfl ?_
          refine wp_gf (idx := 64) (a := 0) (v := .ref 67) (pc' := 32) rfl rfl hb_0 rfl rfl ?_
          refine wp_s (i := .iload_n 1) (n := 1) (pc' := 33) (st' := [.int 3, .ref 67]) rfl rfl ?_
          refine wp_aa (b := 112) (pc' := 34) rfl (by decide) hb_67 rfl rfl rfl ?_
          refine wp_s (i := .astore 5) (n := 2) (pc' := 36) (ls' := [some (.ref 0), some (.int 3), some (.int w), some (.int u), some (.int z), some (.ref 112), none, none, none]) (st' := []) rfl rfl ?_
          refine wp_s (i := .iconst 0) (n := 1) (pc' := 37) (st' := [.int 0]) rfl rfl ?_
          refine wp_s (i := .istore 6) (n := 2) (pc' := 39) (ls' := [some (.ref 0), some (.int 3), some (.int w), some (.int u), some (.int z), some (.ref 112), some (.int 0), none, none]) (st' := []) rfl rfl ?_
          refine wp_s (i := .iconst 0) (n := 1) (pc' := 40) (st' := [.int 0]) rfl rfl ?_
          refine wp_s (i := .istore 7) (n := 2) (pc' := 42) (ls' := [some (.ref 0), some (.int 3), some (.int w), some (.int u), some (.int z), some (.ref 112), some (.int 0), some (.int 0), none]) (st' := []) rfl rfl ?_
          refine wp_s (i := .iload 6) (n := 2) (pc' := 44) (st' := [.int 0]) rfl rfl ?_
          refine wp_s (i := .iload 4) (n := 2) (pc' := 46) (st' := [.int z, .int 0]) rfl rfl ?_
          refine wp_ic (t := 99) (st := []) rfl rfl (fun hc11 => ?_) (fun hc11 => ?_)
          · skip
            show mm_Wp _ _ _ 99 _ _ _ _
            refine wp_s (i := .iconst 0) (n := 1) (pc' := 100) (st' := [.int 0]) rfl rfl ?_
            refine wp_s (i := .istore 8) (n := 2) (pc' := 102) (ls' := [some (.ref 0), some (.int 3), some (.int w), some (.int u), some (.int z), some (.ref 112), some (.int 0), some (.int 0), some (.int 0)]) (st' := []) rfl rfl ?_
            refine wp_s (i := .iload 8) (n := 2) (pc' := 104) (st' := [.int 0]) rfl rfl ?_
            refine wp_s (i := .iload 6) (n := 2) (pc' := 106) (st' := [.int 0, .int 0]) rfl rfl ?_
            refine wp_s (i := .if_icmp .ge 35) (n := 3) (pc' := 141) (st' := []) rfl rfl ?_
            refine wp_s (i := .aload_n 0) (n := 1) (pc' := 142) (st' := [.ref 0]) rfl rfl ?_
            refine wp_s (i := .iload 7) (n := 2) (pc' := 144) (st' := [.int 0, .ref 0]) rfl rfl ?_
            refine wp_pf (idx := 323) (a := 0) (fs' := [.ref 1, .ref 2, .ref 25, .ref 36, .ref 46, .ref 54, .ref 65, .ref 66, .ref 67, .int 0, .int 0]) (pc' := 147) rfl rfl rfl hb_0 rfl rfl rfl rfl rfl ?_
            refine wp_s (i := .iload 6) (n := 2) (pc' := 149) (st' := [.int 0]) rfl rfl ?_
            refine wp_r (i := .ireturn) (n := 1) (v := some (.int 0)) rfl rfl ?_
            refine ⟨0, rfl, ⟨_, (mm_sn rfl hb_114)⟩, ?_⟩
            show mm_Wp X 12 mm_r189 0 [some (.ref 114), some (.int 3), some (.int w), some (.int u), some (.int z), none, none, none] [] _ _
            refine wp_s (i := .iload_n 1) (n := 1) (pc' := 1) (st' := [.int 3]) rfl rfl ?_
            refine wp_s (i := .i2l) (n := 1) (pc' := 2) (st' := [.long 3]) rfl rfl ?_
            refine wp_s (i := .lconst 0) (n := 1) (pc' := 3) (st' := [.long 0, .long 3]) rfl rfl ?_
            refine wp_s (i := .ldc2_w 285) (n := 3) (pc' := 6) (st' := [.long 3, .long 0, .long 3]) rfl rfl ?_
            refine wp_c (i := .invokestatic 81) (n := 3) (Dq := 11) (r' := mm_r120) (as := [.long 3, .long 0, .long 3]) (rest := []) (ls' := [some (.long 3), none, some (.long 0), none, some (.long 3), none]) rfl rfl rfl ?_
            refine wp_x 16 (v := some (.int 1)) (h' := hp_0.set 0 (.inr (9, [.ref 1, .ref 2, .ref 25, .ref 36, .ref 46, .ref 54, .ref 65, .ref 66, .ref 67, .int 0, .int 0]))) (mm_dec (by decide +kernel)) ?_
            show mm_Wp X 12 mm_r189 9 [some (.ref 114), some (.int 3), some (.int w), some (.int u), some (.int z), none, none, none] [.int 1] _ _
            refine wp_s (i := .ifCond .eq 28) (n := 3) (pc' := 12) (st' := []) rfl rfl ?_
            refine wp_s (i := .iload_n 2) (n := 1) (pc' := 13) (st' := [.int w]) rfl rfl ?_
            refine wp_s (i := .i2l) (n := 1) (pc' := 14) (st' := [.long ((w).toInt64)]) rfl rfl ?_
            refine wp_s (i := .lconst 0) (n := 1) (pc' := 15) (st' := [.long 0, .long ((w).toInt64)]) rfl rfl ?_
            refine wp_s (i := .ldc2_w 198) (n := 3) (pc' := 18) (st' := [.long 2, .long 0, .long ((w).toInt64)]) rfl rfl ?_
            refine wp_c (i := .invokestatic 81) (n := 3) (Dq := 11) (r' := mm_r120) (as := [.long ((w).toInt64), .long 0, .long 2]) (rest := []) (ls' := [some (.long ((w).toInt64)), none, some (.long 0), none, some (.long 2), none]) rfl rfl rfl ?_
            refine wp_s (i := .lload_n 0) (n := 1) (pc' := 1) (st' := [.long ((w).toInt64)]) rfl rfl ?_
            refine wp_s (i := .lload_n 2) (n := 1) (pc' := 2) (st' := [.long 0, .long ((w).toInt64)]) rfl rfl ?_
            refine wp_s (i := .lcmp) (n := 1) (pc' := 3) (st' := [.int (lg_cmp ((w).toInt64) 0)]) rfl rfl ?_
            refine wp_if (t := 17) (st := []) rfl rfl (fun hc12 => ?_) (fun hc12 => ?_)
            · skip
              have q12 : (w).toInt < 0 := by have := lc_t_lt hc12; simpa using this
              exfalso; omega
            · skip
              have q12 : (w).toInt ≥ 0 := by have := lc_f_lt hc12; simpa using this
              show mm_Wp _ _ _ 6 _ _ _ _
              refine wp_s (i := .lload_n 0) (n := 1) (pc' := 7) (st' := [.long ((w).toInt64)]) rfl rfl ?_
              refine wp_s (i := .lload 4) (n := 2) (pc' := 9) (st' := [.long 2, .long ((w).toInt64)]) rfl rfl ?_
              refine wp_s (i := .lcmp) (n := 1) (pc' := 10) (st' := [.int (lg_cmp ((w).toInt64) 2)]) rfl rfl ?_
              refine wp_if (t := 17) (st := []) rfl rfl (fun hc13 => ?_) (fun hc13 => ?_)
              · skip
                have q13 : (w).toInt > 2 := by have := lc_t_gt hc13; simpa using this
                exfalso; omega
              · skip
                have q13 : (w).toInt ≤ 2 := by have := lc_f_gt hc13; simpa using this
                show mm_Wp _ _ _ 13 _ _ _ _
                refine wp_s (i := .iconst 1) (n := 1) (pc' := 14) (st' := [.int 1]) rfl rfl ?_
                refine wp_s (i := .goto 4) (n := 3) (pc' := 18) (st' := [.int 1]) rfl rfl ?_
                refine wp_r (i := .ireturn) (n := 1) (v := some (.int 1)) rfl rfl ?_
                show mm_Wp X 12 mm_r189 21 [some (.ref 114), some (.int 3), some (.int w), some (.int u), some (.int z), none, none, none] [.int 1] _ _
                refine wp_s (i := .ifCond .eq 16) (n := 3) (pc' := 24) (st' := []) rfl rfl ?_
                refine wp_s (i := .iload 4) (n := 2) (pc' := 26) (st' := [.int z]) rfl rfl ?_
                refine wp_s (i := .i2l) (n := 1) (pc' := 27) (st' := [.long ((z).toInt64)]) rfl rfl ?_
                refine wp_s (i := .lconst 0) (n := 1) (pc' := 28) (st' := [.long 0, .long ((z).toInt64)]) rfl rfl ?_
                refine wp_s (i := .ldc2_w 277) (n := 3) (pc' := 31) (st' := [.long 12, .long 0, .long ((z).toInt64)]) rfl rfl ?_
                refine wp_c (i := .invokestatic 81) (n := 3) (Dq := 11) (r' := mm_r120) (as := [.long ((z).toInt64), .long 0, .long 12]) (rest := []) (ls' := [some (.long ((z).toInt64)), none, some (.long 0), none, some (.long 12), none]) rfl rfl rfl ?_
                refine wp_s (i := .lload_n 0) (n := 1) (pc' := 1) (st' := [.long ((z).toInt64)]) rfl rfl ?_
                refine wp_s (i := .lload_n 2) (n := 1) (pc' := 2) (st' := [.long 0, .long ((z).toInt64)]) rfl rfl ?_
                refine wp_s (i := .lcmp) (n := 1) (pc' := 3) (st' := [.int (lg_cmp ((z).toInt64) 0)]) rfl rfl ?_
                refine wp_if (t := 17) (st := []) rfl rfl (fun hc14 => ?_) (fun hc14 => ?_)
                · skip
                  have q14 : (z).toInt < 0 := by have := lc_t_lt hc14; simpa using this
                  exfalso; omega
                · skip
                  have q14 : (z).toInt ≥ 0 := by have := lc_f_lt hc14; simpa using this
                  show mm_Wp _ _ _ 6 _ _ _ _
                  refine wp_s (i := .lload_n 0) (n := 1) (pc' := 7) (st' := [.long ((z).toInt64)]) rfl rfl ?_
                  refine wp_s (i := .lload 4) (n := 2) (pc' := 9) (st' := [.long 12, .long ((z).toInt64)]) rfl rfl ?_
                  refine wp_s (i := .lcmp) (n := 1) (pc' := 10) (st' := [.int (lg_cmp ((z).toInt64) 12)]) rfl rfl ?_
                  refine wp_if (t := 17) (st := []) rfl rfl (fun hc15 => ?_) (fun hc15 => ?_)
                  · skip
                    have q15 : (z).toInt > 12 := by have := lc_t_gt hc15; simpa using this
                    exfalso; omega
                  · skip
                    have q15 : (z).toInt ≤ 12 := by have := lc_f_gt hc15; simpa using this
                    show mm_Wp _ _ _ 13 _ _ _ _
                    refine wp_s (i := .iconst 1) (n := 1) (pc' := 14) (st' := [.int 1]) rfl rfl ?_
                    refine wp_s (i := .goto 4) (n := 3) (pc' := 18) (st' := [.int 1]) rfl rfl ?_
                    refine wp_r (i := .ireturn) (n := 1) (v := some (.int 1)) rfl rfl ?_
                    show mm_Wp X 12 mm_r189 34 [some (.ref 114), some (.int 3), some (.int w), some (.int u), some (.int z), none, none, none] [.int 1] _ _
                    refine wp_s (i := .ifCond .ne 5) (n := 3) (pc' := 39) (st' := []) rfl rfl ?_
                    refine wp_s (i := .iconst 0) (n := 1) (pc' := 40) (st' := [.int 0]) rfl rfl ?_
                    refine wp_s (i := .istore 5) (n := 2) (pc' := 42) (ls' := [some (.ref 114), some (.int 3), some (.int w), some (.int u), some (.int z), some (.int 0), none, none]) (st' := []) rfl rfl ?_
                    refine wp_s (i := .iconst 0) (n := 1) (pc' := 43) (st' := [.int 0]) rfl rfl ?_
                    refine wp_s (i := .istore 6) (n := 2) (pc' := 45) (ls' := [some (.ref 114), some (.int 3), some (.int w), some (.int u), some (.int z), some (.int 0), some (.int 0), none]) (st' := []) rfl rfl ?_
                    refine wp_s (i := .iload 6) (n := 2) (pc' := 47) (st' := [.int 0]) rfl rfl ?_
                    refine wp_s (i := .iload 4) (n := 2) (pc' := 49) (st' := [.int z, .int 0]) rfl rfl ?_
                    refine wp_ic (t := 169) (st := []) rfl rfl (fun hc16 => ?_) (fun hc16 => ?_)
                    · skip
                      show mm_Wp _ _ _ 169 _ _ _ _
                      refine wp_s (i := .iconst 0) (n := 1) (pc' := 170) (st' := [.int 0]) rfl rfl ?_
                      refine wp_s (i := .istore 7) (n := 2) (pc' := 172) (ls' := [some (.ref 114), some (.int 3), some (.int w), some (.int u), some (.int z), some (.int 0), some (.int 0), some (.int 0)]) (st' := []) rfl rfl ?_
                      refine wp_s (i := .iload 7) (n := 2) (pc' := 174) (st' := [.int 0]) rfl rfl ?_
                      refine wp_s (i := .iload 6) (n := 2) (pc' := 176) (st' := [.int 0, .int 0]) rfl rfl ?_
                      refine wp_s (i := .if_icmp .ge 29) (n := 3) (pc' := 205) (st' := []) rfl rfl ?_
                      refine wp_s (i := .aload_n 0) (n := 1) (pc' := 206) (st' := [.ref 114]) rfl rfl ?_
                      refine wp_s (i := .iload 5) (n := 2) (pc' := 208) (st' := [.int 0, .ref 114]) rfl rfl ?_
                      refine wp_pf (idx := 287) (a := 114) (fs' := [.ref 115, .int 0, .int 0, .int 0, .int 0, .int 0, .int 0, .ref 116, .ref 117, .ref 118, .ref 119, .ref 120, .ref 121, .ref 122, .ref 123, .ref 124, .ref 125, .int 0, .int 0, .int 0, .int 0, .ref 126, .int 0, .int 0, .int 0, .int 0, .int 0, .int 0, .int 0, .int 0, .ref 127, .ref 128, .ref 129, .ref 130, .int 0, .ref 131, .ref 132, .int 0, .int 0, .int 0, .int 0, .ref 133, .ref 134, .ref 135, .ref 136, .int 0]) (pc' := 211) rfl rfl rfl (mm_sn rfl hb_114) rfl rfl rfl rfl rfl ?_
                      refine wp_s (i := .iload 6) (n := 2) (pc' := 213) (st' := [.int 0]) rfl rfl ?_
                      refine wp_r (i := .ireturn) (n := 1) (v := some (.int 0)) rfl rfl ?_
                      exact ⟨rfl, (pk_okS (pk_okS pk_ok0 hb_0 rfl) (mm_sn rfl hb_114) rfl)⟩
                    · skip
                      show mm_Wp _ _ _ 52 _ _ _ _
                      refine wp_s (i := .iload 5) (n := 2) (pc' := 54) (st' := [.int 0]) rfl rfl ?_
                      refine wp_s (i := .ifCond .ne 115) (n := 3) (pc' := 57) (st' := []) rfl rfl ?_
                      refine wp_s (i := .aload_n 0) (n := 1) (pc' := 58) (st' := [.ref 114]) rfl rfl ?_
                      refine wp_gf (idx := 68) (a := 114) (v := .ref 134) (pc' := 61) rfl rfl (mm_sn rfl hb_114) rfl rfl ?_
                      refine wp_s (i := .iload_n 1) (n := 1) (pc' := 62) (st' := [.int 3, .ref 134]) rfl rfl ?_
                      refine wp_ia (x := (-4)) (pc' := 63) rfl (mm_sn rfl hb_134) rfl rfl rfl ?_
                      refine wp_s (i := .bipush (-4)) (n := 2) (pc' := 65) (st' := [.int (-4), .int (-4)]) rfl rfl ?_
                      refine wp_s (i := .if_icmp .ne 7) (n := 3) (pc' := 68) (st' := []) rfl rfl ?_
                      refine wp_s (i := .iconst 1) (n := 1) (pc' := 69) (st' := [.int 1]) rfl rfl ?_
                      refine wp_s (i := .goto 44) (n := 3) (pc' := 113) (st' := [.int 1]) rfl rfl ?_
                      refine wp_s (i := .istore 5) (n := 2) (pc' := 115) (ls' := [some (.ref 114), some (.int 3), some (.int w), some (.int u), some (.int z), some (.int 1), some (.int 0), none]) (st' := []) rfl rfl ?_
                      refine wp_s (i := .iload 5) (n := 2) (pc' := 117) (st' := [.int 1]) rfl rfl ?_
                      refine wp_s (i := .ifCond .ne 34) (n := 3) (pc' := 151) (st' := []) rfl rfl ?_
                      refine wp_s (i := .iload 6) (n := 2) (pc' := 153) (st' := [.int 0]) rfl rfl ?_
                      refine wp_s (i := .iload 5) (n := 2) (pc' := 155) (st' := [.int 1, .int 0]) rfl rfl ?_
                      refine wp_s (i := .ifCond .ne 7) (n := 3) (pc' := 162) (st' := [.int 0]) rfl rfl ?_
                      refine wp_s (i := .iconst 0) (n := 1) (pc' := 163) (st' := [.int 0, .int 0]) rfl rfl ?_
                      refine wp_s (i := .iadd) (n := 1) (pc' := 164) (st' := [.int 0]) rfl rfl ?_
                      refine wp_s (i := .istore 6) (n := 2) (pc' := 166) (ls' := [some (.ref 114), some (.int 3), some (.int w), some (.int u), some (.int z), some (.int 1), some (.int 0), none]) (st' := []) rfl rfl ?_
                      refine wp_s (i := .goto (-121)) (n := 3) (pc' := 45) (st' := []) rfl rfl ?_
                      refine wp_s (i := .iload 6) (n := 2) (pc' := 47) (st' := [.int 0]) rfl rfl ?_
                      refine wp_s (i := .iload 4) (n := 2) (pc' := 49) (st' := [.int z, .int 0]) rfl rfl ?_
                      refine wp_ic (t := 169) (st := []) rfl rfl (fun hc17 => ?_) (fun hc17 => ?_)
                      · skip
                        show mm_Wp _ _ _ 169 _ _ _ _
                        refine wp_s (i := .iconst 0) (n := 1) (pc' := 170) (st' := [.int 0]) rfl rfl ?_
                        refine wp_s (i := .istore 7) (n := 2) (pc' := 172) (ls' := [some (.ref 114), some (.int 3), some (.int w), some (.int u), some (.int z), some (.int 1), some (.int 0), some (.int 0)]) (st' := []) rfl rfl ?_
                        refine wp_s (i := .iload 7) (n := 2) (pc' := 174) (st' := [.int 0]) rfl rfl ?_
                        refine wp_s (i := .iload 6) (n := 2) (pc' := 176) (st' := [.int 0, .int 0]) rfl rfl ?_
                        refine wp_s (i := .if_icmp .ge 29) (n := 3) (pc' := 205) (st' := []) rfl rfl ?_
                        refine wp_s (i := .aload_n 0) (n := 1) (pc' := 206) (st' := [.ref 114]) rfl rfl ?_
                        refine wp_s (i := .iload 5) (n := 2) (pc' := 208) (st' := [.int 1, .ref 114]) rfl rfl ?_
                        refine wp_pf (idx := 287) (a := 114) (fs' := [.ref 115, .int 0, .int 0, .int 0, .int 0, .int 0, .int 0, .ref 116, .ref 117, .ref 118, .ref 119, .ref 120, .ref 121, .ref 122, .ref 123, .ref 124, .ref 125, .int 0, .int 0, .int 0, .int 0, .ref 126, .int 0, .int 0, .int 0, .int 0, .int 0, .int 0, .int 0, .int 0, .ref 127, .ref 128, .ref 129, .ref 130, .int 0, .ref 131, .ref 132, .int 0, .int 0, .int 0, .int 0, .ref 133, .ref 134, .ref 135, .ref 136, .int 1]) (pc' := 211) rfl rfl rfl (mm_sn rfl hb_114) rfl rfl rfl rfl rfl ?_
                        refine wp_s (i := .iload 6) (n := 2) (pc' := 213) (st' := [.int 0]) rfl rfl ?_
                        refine wp_r (i := .ireturn) (n := 1) (v := some (.int 0)) rfl rfl ?_
                        exact ⟨rfl, (pk_okS (pk_okS pk_ok0 hb_0 rfl) (mm_sn rfl hb_114) rfl)⟩
                      · skip
                        show mm_Wp _ _ _ 52 _ _ _ _
                        refine wp_s (i := .iload 5) (n := 2) (pc' := 54) (st' := [.int 1]) rfl rfl ?_
                        refine wp_s (i := .ifCond .ne 115) (n := 3) (pc' := 169) (st' := []) rfl rfl ?_
                        refine wp_s (i := .iconst 0) (n := 1) (pc' := 170) (st' := [.int 0]) rfl rfl ?_
                        refine wp_s (i := .istore 7) (n := 2) (pc' := 172) (ls' := [some (.ref 114), some (.int 3), some (.int w), some (.int u), some (.int z), some (.int 1), some (.int 0), some (.int 0)]) (st' := []) rfl rfl ?_
                        refine wp_s (i := .iload 7) (n := 2) (pc' := 174) (st' := [.int 0]) rfl rfl ?_
                        refine wp_s (i := .iload 6) (n := 2) (pc' := 176) (st' := [.int 0, .int 0]) rfl rfl ?_
                        refine wp_s (i := .if_icmp .ge 29) (n := 3) (pc' := 205) (st' := []) rfl rfl ?_
                        refine wp_s (i := .aload_n 0) (n := 1) (pc' := 206) (st' := [.ref 114]) rfl rfl ?_
                        refine wp_s (i := .iload 5) (n := 2) (pc' := 208) (st' := [.int 1, .ref 114]) rfl rfl ?_
                        refine wp_pf (idx := 287) (a := 114) (fs' := [.ref 115, .int 0, .int 0, .int 0, .int 0, .int 0, .int 0, .ref 116, .ref 117, .ref 118, .ref 119, .ref 120, .ref 121, .ref 122, .ref 123, .ref 124, .ref 125, .int 0, .int 0, .int 0, .int 0, .ref 126, .int 0, .int 0, .int 0, .int 0, .int 0, .int 0, .int 0, .int 0, .ref 127, .ref 128, .ref 129, .ref 130, .int 0, .ref 131, .ref 132, .int 0, .int 0, .int 0, .int 0, .ref 133, .ref 134, .ref 135, .ref 136, .int 1]) (pc' := 211) rfl rfl rfl (mm_sn rfl hb_114) rfl rfl rfl rfl rfl ?_
                        refine wp_s (i := .iload 6) (n := 2) (pc' := 213) (st' := [.int 0]) rfl rfl ?_
                        refine wp_r (i := .ireturn) (n := 1) (v := some (.int 0)) rfl rfl ?_
                        exact ⟨rfl, (pk_okS (pk_okS pk_ok0 hb_0 rfl) (mm_sn rfl hb_114) rfl)⟩
          · skip
            show mm_Wp _ _ _ 49 _ _ _ _
            refine wp_s (i := .iload 7) (n := 2) (pc' := 51) (st' := [.int 0]) rfl rfl ?_
            refine wp_s (i := .ifCond .ne 48) (n := 3) (pc' := 54) (st' := []) rfl rfl ?_
            refine wp_s (i := .aload 5) (n := 2) (pc' := 56) (st' := [.ref 112]) rfl rfl ?_
            refine wp_s (i := .iload_n 2) (n := 1) (pc' := 57) (st' := [.int w, .ref 112]) rfl rfl ?_
            refine wp_s (i := .iload_n 3) (n := 1) (pc' := 58) (st' := [.int u, .int w, .ref 112]) rfl rfl ?_
            refine wp_s (i := .iload 6) (n := 2) (pc' := 60) (st' := [.int 0, .int u, .int w, .ref 112]) rfl rfl ?_
            refine wp_s (i := .iadd) (n := 1) (pc' := 61) (st' := [.int (u + 0), .int w, .ref 112]) rfl rfl ?_
            refine wp_c (i := .invokevirtual 313) (n := 3) (Dq := 11) (r' := mm_r60) (as := [.ref 112, .int w, .int (u + 0)]) (rest := []) (ls' := [some (.ref 112), some (.int w), some (.int (u + 0))]) rfl rfl rfl ?_
            refine wp_s (i := .aload_n 0) (n := 1) (pc' := 1) (st' := [.ref 112]) rfl rfl ?_
            refine wp_c (i := .invokevirtual 28) (n := 3) (Dq := 10) (r' := mm_r58) (as := [.ref 112]) (rest := []) (ls' := [some (.ref 112)]) rfl rfl rfl ?_
            refine wp_x 12 (v := some (.int 1)) (h' := hp_0) (mm_dec (by decide +kernel)) ?_
            show mm_Wp X 11 mm_r60 4 [some (.ref 112), some (.int w), some (.int (u + 0))] [.int 1] _ _
            refine wp_s (i := .ifCond .eq 5) (n := 3) (pc' := 7) (st' := []) rfl rfl ?_
            refine wp_s (i := .iconst 1) (n := 1) (pc' := 8) (st' := [.int 1]) rfl rfl ?_
            refine wp_r (i := .ireturn) (n := 1) (v := some (.int 1)) rfl rfl ?_
            show mm_Wp X 12 mm_r100 64 [some (.ref 0), some (.int 3), some (.int w), some (.int u), some (.int z), some (.ref 112), some (.int 0), some (.int 0), none] [.int 1] _ _
            refine wp_s (i := .istore 7) (n := 2) (pc' := 66) (ls' := [some (.ref 0), some (.int 3), some (.int w), some (.int u), some (.int z), some (.ref 112), some (.int 0), some (.int 1), none]) (st' := []) rfl rfl ?_
            refine wp_s (i := .iload 7) (n := 2) (pc' := 68) (st' := [.int 1]) rfl rfl ?_
            refine wp_s (i := .ifCond .ne (-26)) (n := 3) (pc' := 42) (st' := []) rfl rfl ?_
            refine wp_s (i := .iload 6) (n := 2) (pc' := 44) (st' := [.int 0]) rfl rfl ?_
            refine wp_s (i := .iload 4) (n := 2) (pc' := 46) (st' := [.int z, .int 0]) rfl rfl ?_
            refine wp_ic (t := 99) (st := []) rfl rfl (fun hc18 => ?_) (fun hc18 => ?_)
            · skip
              show mm_Wp _ _ _ 99 _ _ _ _
              refine wp_s (i := .iconst 0) (n := 1) (pc' := 100) (st' := [.int 0]) rfl rfl ?_
              refine wp_s (i := .istore 8) (n := 2) (pc' := 102) (ls' := [some (.ref 0), some (.int 3), some (.int w), some (.int u), some (.int z), some (.ref 112), some (.int 0), some (.int 1), some (.int 0)]) (st' := []) rfl rfl ?_
              refine wp_s (i := .iload 8) (n := 2) (pc' := 104) (st' := [.int 0]) rfl rfl ?_
              refine wp_s (i := .iload 6) (n := 2) (pc' := 106) (st' := [.int 0, .int 0]) rfl rfl ?_
              refine wp_s (i := .if_icmp .ge 35) (n := 3) (pc' := 141) (st' := []) rfl rfl ?_
              refine wp_s (i := .aload_n 0) (n := 1) (pc' := 142) (st' := [.ref 0]) rfl rfl ?_
              refine wp_s (i := .iload 7) (n := 2) (pc' := 144) (st' := [.int 1, .ref 0]) rfl rfl ?_
              refine wp_pf (idx := 323) (a := 0) (fs' := [.ref 1, .ref 2, .ref 25, .ref 36, .ref 46, .ref 54, .ref 65, .ref 66, .ref 67, .int 0, .int 1]) (pc' := 147) rfl rfl rfl hb_0 rfl rfl rfl rfl rfl ?_
              refine wp_s (i := .iload 6) (n := 2) (pc' := 149) (st' := [.int 0]) rfl rfl ?_
              refine wp_r (i := .ireturn) (n := 1) (v := some (.int 0)) rfl rfl ?_
              refine ⟨0, rfl, ⟨_, (mm_sn rfl hb_114)⟩, ?_⟩
              show mm_Wp X 12 mm_r189 0 [some (.ref 114), some (.int 3), some (.int w), some (.int u), some (.int z), none, none, none] [] _ _
              refine wp_s (i := .iload_n 1) (n := 1) (pc' := 1) (st' := [.int 3]) rfl rfl ?_
              refine wp_s (i := .i2l) (n := 1) (pc' := 2) (st' := [.long 3]) rfl rfl ?_
              refine wp_s (i := .lconst 0) (n := 1) (pc' := 3) (st' := [.long 0, .long 3]) rfl rfl ?_
              refine wp_s (i := .ldc2_w 285) (n := 3) (pc' := 6) (st' := [.long 3, .long 0, .long 3]) rfl rfl ?_
              refine wp_c (i := .invokestatic 81) (n := 3) (Dq := 11) (r' := mm_r120) (as := [.long 3, .long 0, .long 3]) (rest := []) (ls' := [some (.long 3), none, some (.long 0), none, some (.long 3), none]) rfl rfl rfl ?_
              refine wp_x 16 (v := some (.int 1)) (h' := hp_0.set 0 (.inr (9, [.ref 1, .ref 2, .ref 25, .ref 36, .ref 46, .ref 54, .ref 65, .ref 66, .ref 67, .int 0, .int 1]))) (mm_dec (by decide +kernel)) ?_
              show mm_Wp X 12 mm_r189 9 [some (.ref 114), some (.int 3), some (.int w), some (.int u), some (.int z), none, none, none] [.int 1] _ _
              refine wp_s (i := .ifCond .eq 28) (n := 3) (pc' := 12) (st' := []) rfl rfl ?_
              refine wp_s (i := .iload_n 2) (n := 1) (pc' := 13) (st' := [.int w]) rfl rfl ?_
              refine wp_s (i := .i2l) (n := 1) (pc' := 14) (st' := [.long ((w).toInt64)]) rfl rfl ?_
              refine wp_s (i := .lconst 0) (n := 1) (pc' := 15) (st' := [.long 0, .long ((w).toInt64)]) rfl rfl ?_
              refine wp_s (i := .ldc2_w 198) (n := 3) (pc' := 18) (st' := [.long 2, .long 0, .long ((w).toInt64)]) rfl rfl ?_
              refine wp_c (i := .invokestatic 81) (n := 3) (Dq := 11) (r' := mm_r120) (as := [.long ((w).toInt64), .long 0, .long 2]) (rest := []) (ls' := [some (.long ((w).toInt64)), none, some (.long 0), none, some (.long 2), none]) rfl rfl rfl ?_
              refine wp_s (i := .lload_n 0) (n := 1) (pc' := 1) (st' := [.long ((w).toInt64)]) rfl rfl ?_
              refine wp_s (i := .lload_n 2) (n := 1) (pc' := 2) (st' := [.long 0, .long ((w).toInt64)]) rfl rfl ?_
              refine wp_s (i := .lcmp) (n := 1) (pc' := 3) (st' := [.int (lg_cmp ((w).toInt64) 0)]) rfl rfl ?_
              refine wp_if (t := 17) (st := []) rfl rfl (fun hc19 => ?_) (fun hc19 => ?_)
              · skip
                have q19 : (w).toInt < 0 := by have := lc_t_lt hc19; simpa using this
                exfalso; omega
              · skip
                have q19 : (w).toInt ≥ 0 := by have := lc_f_lt hc19; simpa using this
                show mm_Wp _ _ _ 6 _ _ _ _
                refine wp_s (i := .lload_n 0) (n := 1) (pc' := 7) (st' := [.long ((w).toInt64)]) rfl rfl ?_
                refine wp_s (i := .lload 4) (n := 2) (pc' := 9) (st' := [.long 2, .long ((w).toInt64)]) rfl rfl ?_
                refine wp_s (i := .lcmp) (n := 1) (pc' := 10) (st' := [.int (lg_cmp ((w).toInt64) 2)]) rfl rfl ?_
                refine wp_if (t := 17) (st := []) rfl rfl (fun hc20 => ?_) (fun hc20 => ?_)
                · skip
                  have q20 : (w).toInt > 2 := by have := lc_t_gt hc20; simpa using this
                  exfalso; omega
                · skip
                  have q20 : (w).toInt ≤ 2 := by have := lc_f_gt hc20; simpa using this
                  show mm_Wp _ _ _ 13 _ _ _ _
                  refine wp_s (i := .iconst 1) (n := 1) (pc' := 14) (st' := [.int 1]) rfl rfl ?_
                  refine wp_s (i := .goto 4) (n := 3) (pc' := 18) (st' := [.int 1]) rfl rfl ?_
                  refine wp_r (i := .ireturn) (n := 1) (v := some (.int 1)) rfl rfl ?_
                  show mm_Wp X 12 mm_r189 21 [some (.ref 114), some (.int 3), some (.int w), some (.int u), some (.int z), none, none, none] [.int 1] _ _
                  refine wp_s (i := .ifCond .eq 16) (n := 3) (pc' := 24) (st' := []) rfl rfl ?_
                  refine wp_s (i := .iload 4) (n := 2) (pc' := 26) (st' := [.int z]) rfl rfl ?_
                  refine wp_s (i := .i2l) (n := 1) (pc' := 27) (st' := [.long ((z).toInt64)]) rfl rfl ?_
                  refine wp_s (i := .lconst 0) (n := 1) (pc' := 28) (st' := [.long 0, .long ((z).toInt64)]) rfl rfl ?_
                  refine wp_s (i := .ldc2_w 277) (n := 3) (pc' := 31) (st' := [.long 12, .long 0, .long ((z).toInt64)]) rfl rfl ?_
                  refine wp_c (i := .invokestatic 81) (n := 3) (Dq := 11) (r' := mm_r120) (as := [.long ((z).toInt64), .long 0, .long 12]) (rest := []) (ls' := [some (.long ((z).toInt64)), none, some (.long 0), none, some (.long 12), none]) rfl rfl rfl ?_
                  refine wp_s (i := .lload_n 0) (n := 1) (pc' := 1) (st' := [.long ((z).toInt64)]) rfl rfl ?_
                  refine wp_s (i := .lload_n 2) (n := 1) (pc' := 2) (st' := [.long 0, .long ((z).toInt64)]) rfl rfl ?_
                  refine wp_s (i := .lcmp) (n := 1) (pc' := 3) (st' := [.int (lg_cmp ((z).toInt64) 0)]) rfl rfl ?_
                  refine wp_if (t := 17) (st := []) rfl rfl (fun hc21 => ?_) (fun hc21 => ?_)
                  · skip
                    have q21 : (z).toInt < 0 := by have := lc_t_lt hc21; simpa using this
                    exfalso; omega
                  · skip
                    have q21 : (z).toInt ≥ 0 := by have := lc_f_lt hc21; simpa using this
                    show mm_Wp _ _ _ 6 _ _ _ _
                    refine wp_s (i := .lload_n 0) (n := 1) (pc' := 7) (st' := [.long ((z).toInt64)]) rfl rfl ?_
                    refine wp_s (i := .lload 4) (n := 2) (pc' := 9) (st' := [.long 12, .long ((z).toInt64)]) rfl rfl ?_
                    refine wp_s (i := .lcmp) (n := 1) (pc' := 10) (st' := [.int (lg_cmp ((z).toInt64) 12)]) rfl rfl ?_
                    refine wp_if (t := 17) (st := []) rfl rfl (fun hc22 => ?_) (fun hc22 => ?_)
                    · skip
                      have q22 : (z).toInt > 12 := by have := lc_t_gt hc22; simpa using this
                      exfalso; omega
                    · skip
                      have q22 : (z).toInt ≤ 12 := by have := lc_f_gt hc22; simpa using this
                      show mm_Wp _ _ _ 13 _ _ _ _
                      refine wp_s (i := .iconst 1) (n := 1) (pc' := 14) (st' := [.int 1]) rfl rfl ?_
                      refine wp_s (i := .goto 4) (n := 3) (pc' := 18) (st' := [.int 1]) rfl rfl ?_
                      refine wp_r (i := .ireturn) (n := 1) (v := some (.int 1)) rfl rfl ?_
                      show mm_Wp X 12 mm_r189 34 [some (.ref 114), some (.int 3), some (.int w), some (.int u), some (.int z), none, none, none] [.int 1] _ _
                      refine wp_s (i := .ifCond .ne 5) (n := 3) (pc' := 39) (st' := []) rfl rfl ?_
                      refine wp_s (i := .iconst 0) (n := 1) (pc' := 40) (st' := [.int 0]) rfl rfl ?_
                      refine wp_s (i := .istore 5) (n := 2) (pc' := 42) (ls' := [some (.ref 114), some (.int 3), some (.int w), some (.int u), some (.int z), some (.int 0), none, none]) (st' := []) rfl rfl ?_
                      refine wp_s (i := .iconst 0) (n := 1) (pc' := 43) (st' := [.int 0]) rfl rfl ?_
                      refine wp_s (i := .istore 6) (n := 2) (pc' := 45) (ls' := [some (.ref 114), some (.int 3), some (.int w), some (.int u), some (.int z), some (.int 0), some (.int 0), none]) (st' := []) rfl rfl ?_
                      refine wp_s (i := .iload 6) (n := 2) (pc' := 47) (st' := [.int 0]) rfl rfl ?_
                      refine wp_s (i := .iload 4) (n := 2) (pc' := 49) (st' := [.int z, .int 0]) rfl rfl ?_
                      refine wp_ic (t := 169) (st := []) rfl rfl (fun hc23 => ?_) (fun hc23 => ?_)
                      · skip
                        show mm_Wp _ _ _ 169 _ _ _ _
                        refine wp_s (i := .iconst 0) (n := 1) (pc' := 170) (st' := [.int 0]) rfl rfl ?_
                        refine wp_s (i := .istore 7) (n := 2) (pc' := 172) (ls' := [some (.ref 114), some (.int 3), some (.int w), some (.int u), some (.int z), some (.int 0), some (.int 0), some (.int 0)]) (st' := []) rfl rfl ?_
                        refine wp_s (i := .iload 7) (n := 2) (pc' := 174) (st' := [.int 0]) rfl rfl ?_
                        refine wp_s (i := .iload 6) (n := 2) (pc' := 176) (st' := [.int 0, .int 0]) rfl rfl ?_
                        refine wp_s (i := .if_icmp .ge 29) (n := 3) (pc' := 205) (st' := []) rfl rfl ?_
                        refine wp_s (i := .aload_n 0) (n := 1) (pc' := 206) (st' := [.ref 114]) rfl rfl ?_
                        refine wp_s (i := .iload 5) (n := 2) (pc' := 208) (st' := [.int 0, .ref 114]) rfl rfl ?_
                        refine wp_pf (idx := 287) (a := 114) (fs' := [.ref 115, .int 0, .int 0, .int 0, .int 0, .int 0, .int 0, .ref 116, .ref 117, .ref 118, .ref 119, .ref 120, .ref 121, .ref 122, .ref 123, .ref 124, .ref 125, .int 0, .int 0, .int 0, .int 0, .ref 126, .int 0, .int 0, .int 0, .int 0, .int 0, .int 0, .int 0, .int 0, .ref 127, .ref 128, .ref 129, .ref 130, .int 0, .ref 131, .ref 132, .int 0, .int 0, .int 0, .int 0, .ref 133, .ref 134, .ref 135, .ref 136, .int 0]) (pc' := 211) rfl rfl rfl (mm_sn rfl hb_114) rfl rfl rfl rfl rfl ?_
                        refine wp_s (i := .iload 6) (n := 2) (pc' := 213) (st' := [.int 0]) rfl rfl ?_
                        refine wp_r (i := .ireturn) (n := 1) (v := some (.int 0)) rfl rfl ?_
                        exact ⟨rfl, (pk_okS (pk_okS pk_ok0 hb_0 rfl) (mm_sn rfl hb_114) rfl)⟩
                      · skip
                        show mm_Wp _ _ _ 52 _ _ _ _
                        refine wp_s (i := .iload 5) (n := 2) (pc' := 54) (st' := [.int 0]) rfl rfl ?_
                        refine wp_s (i := .ifCond .ne 115) (n := 3) (pc' := 57) (st' := []) rfl rfl ?_
                        refine wp_s (i := .aload_n 0) (n := 1) (pc' := 58) (st' := [.ref 114]) rfl rfl ?_
                        refine wp_gf (idx := 68) (a := 114) (v := .ref 134) (pc' := 61) rfl rfl (mm_sn rfl hb_114) rfl rfl ?_
                        refine wp_s (i := .iload_n 1) (n := 1) (pc' := 62) (st' := [.int 3, .ref 134]) rfl rfl ?_
                        refine wp_ia (x := (-4)) (pc' := 63) rfl (mm_sn rfl hb_134) rfl rfl rfl ?_
                        refine wp_s (i := .bipush (-4)) (n := 2) (pc' := 65) (st' := [.int (-4), .int (-4)]) rfl rfl ?_
                        refine wp_s (i := .if_icmp .ne 7) (n := 3) (pc' := 68) (st' := []) rfl rfl ?_
                        refine wp_s (i := .iconst 1) (n := 1) (pc' := 69) (st' := [.int 1]) rfl rfl ?_
                        refine wp_s (i := .goto 44) (n := 3) (pc' := 113) (st' := [.int 1]) rfl rfl ?_
                        refine wp_s (i := .istore 5) (n := 2) (pc' := 115) (ls' := [some (.ref 114), some (.int 3), some (.int w), some (.int u), some (.int z), some (.int 1), some (.int 0), none]) (st' := []) rfl rfl ?_
                        refine wp_s (i := .iload 5) (n := 2) (pc' := 117) (st' := [.int 1]) rfl rfl ?_
                        refine wp_s (i := .ifCond .ne 34) (n := 3) (pc' := 151) (st' := []) rfl rfl ?_
                        refine wp_s (i := .iload 6) (n := 2) (pc' := 153) (st' := [.int 0]) rfl rfl ?_
                        refine wp_s (i := .iload 5) (n := 2) (pc' := 155) (st' := [.int 1, .int 0]) rfl rfl ?_
                        refine wp_s (i := .ifCond .ne 7) (n := 3) (pc' := 162) (st' := [.int 0]) rfl rfl ?_
                        refine wp_s (i := .iconst 0) (n := 1) (pc' := 163) (st' := [.int 0, .int 0]) rfl rfl ?_
                        refine wp_s (i := .iadd) (n := 1) (pc' := 164) (st' := [.int 0]) rfl rfl ?_
                        refine wp_s (i := .istore 6) (n := 2) (pc' := 166) (ls' := [some (.ref 114), some (.int 3), some (.int w), some (.int u), some (.int z), some (.int 1), some (.int 0), none]) (st' := []) rfl rfl ?_
                        refine wp_s (i := .goto (-121)) (n := 3) (pc' := 45) (st' := []) rfl rfl ?_
                        refine wp_s (i := .iload 6) (n := 2) (pc' := 47) (st' := [.int 0]) rfl rfl ?_
                        refine wp_s (i := .iload 4) (n := 2) (pc' := 49) (st' := [.int z, .int 0]) rfl rfl ?_
                        refine wp_ic (t := 169) (st := []) rfl rfl (fun hc24 => ?_) (fun hc24 => ?_)
                        · skip
                          show mm_Wp _ _ _ 169 _ _ _ _
                          refine wp_s (i := .iconst 0) (n := 1) (pc' := 170) (st' := [.int 0]) rfl rfl ?_
                          refine wp_s (i := .istore 7) (n := 2) (pc' := 172) (ls' := [some (.ref 114), some (.int 3), some (.int w), some (.int u), some (.int z), some (.int 1), some (.int 0), some (.int 0)]) (st' := []) rfl rfl ?_
                          refine wp_s (i := .iload 7) (n := 2) (pc' := 174) (st' := [.int 0]) rfl rfl ?_
                          refine wp_s (i := .iload 6) (n := 2) (pc' := 176) (st' := [.int 0, .int 0]) rfl rfl ?_
                          refine wp_s (i := .if_icmp .ge 29) (n := 3) (pc' := 205) (st' := []) rfl rfl ?_
                          refine wp_s (i := .aload_n 0) (n := 1) (pc' := 206) (st' := [.ref 114]) rfl rfl ?_
                          refine wp_s (i := .iload 5) (n := 2) (pc' := 208) (st' := [.int 1, .ref 114]) rfl rfl ?_
                          refine wp_pf (idx := 287) (a := 114) (fs' := [.ref 115, .int 0, .int 0, .int 0, .int 0, .int 0, .int 0, .ref 116, .ref 117, .ref 118, .ref 119, .ref 120, .ref 121, .ref 122, .ref 123, .ref 124, .ref 125, .int 0, .int 0, .int 0, .int 0, .ref 126, .int 0, .int 0, .int 0, .int 0, .int 0, .int 0, .int 0, .int 0, .ref 127, .ref 128, .ref 129, .ref 130, .int 0, .ref 131, .ref 132, .int 0, .int 0, .int 0, .int 0, .ref 133, .ref 134, .ref 135, .ref 136, .int 1]) (pc' := 211) rfl rfl rfl (mm_sn rfl hb_114) rfl rfl rfl rfl rfl ?_
                          refine wp_s (i := .iload 6) (n := 2) (pc' := 213) (st' := [.int 0]) rfl rfl ?_
                          refine wp_r (i := .ireturn) (n := 1) (v := some (.int 0)) rfl rfl ?_
                          exact ⟨rfl, (pk_okS (pk_okS pk_ok0 hb_0 rfl) (mm_sn rfl hb_114) rfl)⟩
                        · skip
                          show mm_Wp _ _ _ 52 _ _ _ _
                          refine wp_s (i := .iload 5) (n := 2) (pc' := 54) (st' := [.int 1]) rfl rfl ?_
                          refine wp_s (i := .ifCond .ne 115) (n := 3) (pc' := 169) (st' := []) rfl rfl ?_
                          refine wp_s (i := .iconst 0) (n := 1) (pc' := 170) (st' := [.int 0]) rfl rfl ?_
                          refine wp_s (i := .istore 7) (n := 2) (pc' := 172) (ls' := [some (.ref 114), some (.int 3), some (.int w), some (.int u), some (.int z), some (.int 1), some (.int 0), some (.int 0)]) (st' := []) rfl rfl ?_
                          refine wp_s (i := .iload 7) (n := 2) (pc' := 174) (st' := [.int 0]) rfl rfl ?_
                          refine wp_s (i := .iload 6) (n := 2) (pc' := 176) (st' := [.int 0, .int 0]) rfl rfl ?_
                          refine wp_s (i := .if_icmp .ge 29) (n := 3) (pc' := 205) (st' := []) rfl rfl ?_
                          refine wp_s (i := .aload_n 0) (n := 1) (pc' := 206) (st' := [.ref 114]) rfl rfl ?_
                          refine wp_s (i := .iload 5) (n := 2) (pc' := 208) (st' := [.int 1, .ref 114]) rfl rfl ?_
                          refine wp_pf (idx := 287) (a := 114) (fs' := [.ref 115, .int 0, .int 0, .int 0, .int 0, .int 0, .int 0, .ref 116, .ref 117, .ref 118, .ref 119, .ref 120, .ref 121, .ref 122, .ref 123, .ref 124, .ref 125, .int 0, .int 0, .int 0, .int 0, .ref 126, .int 0, .int 0, .int 0, .int 0, .int 0, .int 0, .int 0, .int 0, .ref 127, .ref 128, .ref 129, .ref 130, .int 0, .ref 131, .ref 132, .int 0, .int 0, .int 0, .int 0, .ref 133, .ref 134, .ref 135, .ref 136, .int 1]) (pc' := 211) rfl rfl rfl (mm_sn rfl hb_114) rfl rfl rfl rfl rfl ?_
                          refine wp_s (i := .iload 6) (n := 2) (pc' := 213) (st' := [.int 0]) rfl rfl ?_
                          refine wp_r (i := .ireturn) (n := 1) (v := some (.int 0)) rfl rfl ?_
                          exact ⟨rfl, (pk_okS (pk_okS pk_ok0 hb_0 rfl) (mm_sn rfl hb_114) rfl)⟩
            · skip
              show mm_Wp _ _ _ 49 _ _ _ _
              refine wp_s (i := .iload 7) (n := 2) (pc' := 51) (st' := [.int 1]) rfl rfl ?_
              refine wp_s (i := .ifCond .ne 48) (n := 3) (pc' := 99) (st' := []) rfl rfl ?_
              refine wp_s (i := .iconst 0) (n := 1) (pc' := 100) (st' := [.int 0]) rfl rfl ?_
              refine wp_s (i := .istore 8) (n := 2) (pc' := 102) (ls' := [some (.ref 0), some (.int 3), some (.int w), some (.int u), some (.int z), some (.ref 112), some (.int 0), some (.int 1), some (.int 0)]) (st' := []) rfl rfl ?_
              refine wp_s (i := .iload 8) (n := 2) (pc' := 104) (st' := [.int 0]) rfl rfl ?_
              refine wp_s (i := .iload 6) (n := 2) (pc' := 106) (st' := [.int 0, .int 0]) rfl rfl ?_
              refine wp_s (i := .if_icmp .ge 35) (n := 3) (pc' := 141) (st' := []) rfl rfl ?_
              refine wp_s (i := .aload_n 0) (n := 1) (pc' := 142) (st' := [.ref 0]) rfl rfl ?_
              refine wp_s (i := .iload 7) (n := 2) (pc' := 144) (st' := [.int 1, .ref 0]) rfl rfl ?_
              refine wp_pf (idx := 323) (a := 0) (fs' := [.ref 1, .ref 2, .ref 25, .ref 36, .ref 46, .ref 54, .ref 65, .ref 66, .ref 67, .int 0, .int 1]) (pc' := 147) rfl rfl rfl hb_0 rfl rfl rfl rfl rfl ?_
              refine wp_s (i := .iload 6) (n := 2) (pc' := 149) (st' := [.int 0]) rfl rfl ?_
              refine wp_r (i := .ireturn) (n := 1) (v := some (.int 0)) rfl rfl ?_
              refine ⟨0, rfl, ⟨_, (mm_sn rfl hb_114)⟩, ?_⟩
              show mm_Wp X 12 mm_r189 0 [some (.ref 114), some (.int 3), some (.int w), some (.int u), some (.int z), none, none, none] [] _ _
              refine wp_s (i := .iload_n 1) (n := 1) (pc' := 1) (st' := [.int 3]) rfl rfl ?_
              refine wp_s (i := .i2l) (n := 1) (pc' := 2) (st' := [.long 3]) rfl rfl ?_
              refine wp_s (i := .lconst 0) (n := 1) (pc' := 3) (st' := [.long 0, .long 3]) rfl rfl ?_
              refine wp_s (i := .ldc2_w 285) (n := 3) (pc' := 6) (st' := [.long 3, .long 0, .long 3]) rfl rfl ?_
              refine wp_c (i := .invokestatic 81) (n := 3) (Dq := 11) (r' := mm_r120) (as := [.long 3, .long 0, .long 3]) (rest := []) (ls' := [some (.long 3), none, some (.long 0), none, some (.long 3), none]) rfl rfl rfl ?_
              refine wp_x 16 (v := some (.int 1)) (h' := hp_0.set 0 (.inr (9, [.ref 1, .ref 2, .ref 25, .ref 36, .ref 46, .ref 54, .ref 65, .ref 66, .ref 67, .int 0, .int 1]))) (mm_dec (by decide +kernel)) ?_
              show mm_Wp X 12 mm_r189 9 [some (.ref 114), some (.int 3), some (.int w), some (.int u), some (.int z), none, none, none] [.int 1] _ _
              refine wp_s (i := .ifCond .eq 28) (n := 3) (pc' := 12) (st' := []) rfl rfl ?_
              refine wp_s (i := .iload_n 2) (n := 1) (pc' := 13) (st' := [.int w]) rfl rfl ?_
              refine wp_s (i := .i2l) (n := 1) (pc' := 14) (st' := [.long ((w).toInt64)]) rfl rfl ?_
              refine wp_s (i := .lconst 0) (n := 1) (pc' := 15) (st' := [.long 0, .long ((w).toInt64)]) rfl rfl ?_
              refine wp_s (i := .ldc2_w 198) (n := 3) (pc' := 18) (st' := [.long 2, .long 0, .long ((w).toInt64)]) rfl rfl ?_
              refine wp_c (i := .invokestatic 81) (n := 3) (Dq := 11) (r' := mm_r120) (as := [.long ((w).toInt64), .long 0, .long 2]) (rest := []) (ls' := [some (.long ((w).toInt64)), none, some (.long 0), none, some (.long 2), none]) rfl rfl rfl ?_
              refine wp_s (i := .lload_n 0) (n := 1) (pc' := 1) (st' := [.long ((w).toInt64)]) rfl rfl ?_
              refine wp_s (i := .lload_n 2) (n := 1) (pc' := 2) (st' := [.long 0, .long ((w).toInt64)]) rfl rfl ?_
              refine wp_s (i := .lcmp) (n := 1) (pc' := 3) (st' := [.int (lg_cmp ((w).toInt64) 0)]) rfl rfl ?_
              refine wp_if (t := 17) (st := []) rfl rfl (fun hc25 => ?_) (fun hc25 => ?_)
              · skip
                have q25 : (w).toInt < 0 := by have := lc_t_lt hc25; simpa using this
                exfalso; omega
              · skip
                have q25 : (w).toInt ≥ 0 := by have := lc_f_lt hc25; simpa using this
                show mm_Wp _ _ _ 6 _ _ _ _
                refine wp_s (i := .lload_n 0) (n := 1) (pc' := 7) (st' := [.long ((w).toInt64)]) rfl rfl ?_
                refine wp_s (i := .lload 4) (n := 2) (pc' := 9) (st' := [.long 2, .long ((w).toInt64)]) rfl rfl ?_
                refine wp_s (i := .lcmp) (n := 1) (pc' := 10) (st' := [.int (lg_cmp ((w).toInt64) 2)]) rfl rfl ?_
                refine wp_if (t := 17) (st := []) rfl rfl (fun hc26 => ?_) (fun hc26 => ?_)
                · skip
                  have q26 : (w).toInt > 2 := by have := lc_t_gt hc26; simpa using this
                  exfalso; omega
                · skip
                  have q26 : (w).toInt ≤ 2 := by have := lc_f_gt hc26; simpa using this
                  show mm_Wp _ _ _ 13 _ _ _ _
                  refine wp_s (i := .iconst 1) (n := 1) (pc' := 14) (st' := [.int 1]) rfl rfl ?_
                  refine wp_s (i := .goto 4) (n := 3) (pc' := 18) (st' := [.int 1]) rfl rfl ?_
                  refine wp_r (i := .ireturn) (n := 1) (v := some (.int 1)) rfl rfl ?_
                  show mm_Wp X 12 mm_r189 21 [some (.ref 114), some (.int 3), some (.int w), some (.int u), some (.int z), none, none, none] [.int 1] _ _
                  refine wp_s (i := .ifCond .eq 16) (n := 3) (pc' := 24) (st' := []) rfl rfl ?_
                  refine wp_s (i := .iload 4) (n := 2) (pc' := 26) (st' := [.int z]) rfl rfl ?_
                  refine wp_s (i := .i2l) (n := 1) (pc' := 27) (st' := [.long ((z).toInt64)]) rfl rfl ?_
                  refine wp_s (i := .lconst 0) (n := 1) (pc' := 28) (st' := [.long 0, .long ((z).toInt64)]) rfl rfl ?_
                  refine wp_s (i := .ldc2_w 277) (n := 3) (pc' := 31) (st' := [.long 12, .long 0, .long ((z).toInt64)]) rfl rfl ?_
                  refine wp_c (i := .invokestatic 81) (n := 3) (Dq := 11) (r' := mm_r120) (as := [.long ((z).toInt64), .long 0, .long 12]) (rest := []) (ls' := [some (.long ((z).toInt64)), none, some (.long 0), none, some (.long 12), none]) rfl rfl rfl ?_
                  refine wp_s (i := .lload_n 0) (n := 1) (pc' := 1) (st' := [.long ((z).toInt64)]) rfl rfl ?_
                  refine wp_s (i := .lload_n 2) (n := 1) (pc' := 2) (st' := [.long 0, .long ((z).toInt64)]) rfl rfl ?_
                  refine wp_s (i := .lcmp) (n := 1) (pc' := 3) (st' := [.int (lg_cmp ((z).toInt64) 0)]) rfl rfl ?_
                  refine wp_if (t := 17) (st := []) rfl rfl (fun hc27 => ?_) (fun hc27 => ?_)
                  · skip
                    have q27 : (z).toInt < 0 := by have := lc_t_lt hc27; simpa using this
                    exfalso; omega
                  · skip
                    have q27 : (z).toInt ≥ 0 := by have := lc_f_lt hc27; simpa using this
                    show mm_Wp _ _ _ 6 _ _ _ _
                    refine wp_s (i := .lload_n 0) (n := 1) (pc' := 7) (st' := [.long ((z).toInt64)]) rfl rfl ?_
                    refine wp_s (i := .lload 4) (n := 2) (pc' := 9) (st' := [.long 12, .long ((z).toInt64)]) rfl rfl ?_
                    refine wp_s (i := .lcmp) (n := 1) (pc' := 10) (st' := [.int (lg_cmp ((z).toInt64) 12)]) rfl rfl ?_
                    refine wp_if (t := 17) (st := []) rfl rfl (fun hc28 => ?_) (fun hc28 => ?_)
                    · skip
                      have q28 : (z).toInt > 12 := by have := lc_t_gt hc28; simpa using this
                      exfalso; omega
                    · skip
                      have q28 : (z).toInt ≤ 12 := by have := lc_f_gt hc28; simpa using this
                      show mm_Wp _ _ _ 13 _ _ _ _
                      refine wp_s (i := .iconst 1) (n := 1) (pc' := 14) (st' := [.int 1]) rfl rfl ?_
                      refine wp_s (i := .goto 4) (n := 3) (pc' := 18) (st' := [.int 1]) rfl rfl ?_
                      refine wp_r (i := .ireturn) (n := 1) (v := some (.int 1)) rfl rfl ?_
                      show mm_Wp X 12 mm_r189 34 [some (.ref 114), some (.int 3), some (.int w), some (.int u), some (.int z), none, none, none] [.int 1] _ _
                      refine wp_s (i := .ifCond .ne 5) (n := 3) (pc' := 39) (st' := []) rfl rfl ?_
                      refine wp_s (i := .iconst 0) (n := 1) (pc' := 40) (st' := [.int 0]) rfl rfl ?_
                      refine wp_s (i := .istore 5) (n := 2) (pc' := 42) (ls' := [some (.ref 114), some (.int 3), some (.int w), some (.int u), some (.int z), some (.int 0), none, none]) (st' := []) rfl rfl ?_
                      refine wp_s (i := .iconst 0) (n := 1) (pc' := 43) (st' := [.int 0]) rfl rfl ?_
                      refine wp_s (i := .istore 6) (n := 2) (pc' := 45) (ls' := [some (.ref 114), some (.int 3), some (.int w), some (.int u), some (.int z), some (.int 0), some (.int 0), none]) (st' := []) rfl rfl ?_
                      refine wp_s (i := .iload 6) (n := 2) (pc' := 47) (st' := [.int 0]) rfl rfl ?_
                      refine wp_s (i := .iload 4) (n := 2) (pc' := 49) (st' := [.int z, .int 0]) rfl rfl ?_
                      refine wp_ic (t := 169) (st := []) rfl rfl (fun hc29 => ?_) (fun hc29 => ?_)
                      · skip
                        show mm_Wp _ _ _ 169 _ _ _ _
                        refine wp_s (i := .iconst 0) (n := 1) (pc' := 170) (st' := [.int 0]) rfl rfl ?_
                        refine wp_s (i := .istore 7) (n := 2) (pc' := 172) (ls' := [some (.ref 114), some (.int 3), some (.int w), some (.int u), some (.int z), some (.int 0), some (.int 0), some (.int 0)]) (st' := []) rfl rfl ?_
                        refine wp_s (i := .iload 7) (n := 2) (pc' := 174) (st' := [.int 0]) rfl rfl ?_
                        refine wp_s (i := .iload 6) (n := 2) (pc' := 176) (st' := [.int 0, .int 0]) rfl rfl ?_
                        refine wp_s (i := .if_icmp .ge 29) (n := 3) (pc' := 205) (st' := []) rfl rfl ?_
                        refine wp_s (i := .aload_n 0) (n := 1) (pc' := 206) (st' := [.ref 114]) rfl rfl ?_
                        refine wp_s (i := .iload 5) (n := 2) (pc' := 208) (st' := [.int 0, .ref 114]) rfl rfl ?_
                        refine wp_pf (idx := 287) (a := 114) (fs' := [.ref 115, .int 0, .int 0, .int 0, .int 0, .int 0, .int 0, .ref 116, .ref 117, .ref 118, .ref 119, .ref 120, .ref 121, .ref 122, .ref 123, .ref 124, .ref 125, .int 0, .int 0, .int 0, .int 0, .ref 126, .int 0, .int 0, .int 0, .int 0, .int 0, .int 0, .int 0, .int 0, .ref 127, .ref 128, .ref 129, .ref 130, .int 0, .ref 131, .ref 132, .int 0, .int 0, .int 0, .int 0, .ref 133, .ref 134, .ref 135, .ref 136, .int 0]) (pc' := 211) rfl rfl rfl (mm_sn rfl hb_114) rfl rfl rfl rfl rfl ?_
                        refine wp_s (i := .iload 6) (n := 2) (pc' := 213) (st' := [.int 0]) rfl rfl ?_
                        refine wp_r (i := .ireturn) (n := 1) (v := some (.int 0)) rfl rfl ?_
                        exact ⟨rfl, (pk_okS (pk_okS pk_ok0 hb_0 rfl) (mm_sn rfl hb_114) rfl)⟩
                      · skip
                        show mm_Wp _ _ _ 52 _ _ _ _
                        refine wp_s (i := .iload 5) (n := 2) (pc' := 54) (st' := [.int 0]) rfl rfl ?_
                        refine wp_s (i := .ifCond .ne 115) (n := 3) (pc' := 57) (st' := []) rfl rfl ?_
                        refine wp_s (i := .aload_n 0) (n := 1) (pc' := 58) (st' := [.ref 114]) rfl rfl ?_
                        refine wp_gf (idx := 68) (a := 114) (v := .ref 134) (pc' := 61) rfl rfl (mm_sn rfl hb_114) rfl rfl ?_
                        refine wp_s (i := .iload_n 1) (n := 1) (pc' := 62) (st' := [.int 3, .ref 134]) rfl rfl ?_
                        refine wp_ia (x := (-4)) (pc' := 63) rfl (mm_sn rfl hb_134) rfl rfl rfl ?_
                        refine wp_s (i := .bipush (-4)) (n := 2) (pc' := 65) (st' := [.int (-4), .int (-4)]) rfl rfl ?_
                        refine wp_s (i := .if_icmp .ne 7) (n := 3) (pc' := 68) (st' := []) rfl rfl ?_
                        refine wp_s (i := .iconst 1) (n := 1) (pc' := 69) (st' := [.int 1]) rfl rfl ?_
                        refine wp_s (i := .goto 44) (n := 3) (pc' := 113) (st' := [.int 1]) rfl rfl ?_
                        refine wp_s (i := .istore 5) (n := 2) (pc' := 115) (ls' := [some (.ref 114), some (.int 3), some (.int w), some (.int u), some (.int z), some (.int 1), some (.int 0), none]) (st' := []) rfl rfl ?_
                        refine wp_s (i := .iload 5) (n := 2) (pc' := 117) (st' := [.int 1]) rfl rfl ?_
                        refine wp_s (i := .ifCond .ne 34) (n := 3) (pc' := 151) (st' := []) rfl rfl ?_
                        refine wp_s (i := .iload 6) (n := 2) (pc' := 153) (st' := [.int 0]) rfl rfl ?_
                        refine wp_s (i := .iload 5) (n := 2) (pc' := 155) (st' := [.int 1, .int 0]) rfl rfl ?_
                        refine wp_s (i := .ifCond .ne 7) (n := 3) (pc' := 162) (st' := [.int 0]) rfl rfl ?_
                        refine wp_s (i := .iconst 0) (n := 1) (pc' := 163) (st' := [.int 0, .int 0]) rfl rfl ?_
                        refine wp_s (i := .iadd) (n := 1) (pc' := 164) (st' := [.int 0]) rfl rfl ?_
                        refine wp_s (i := .istore 6) (n := 2) (pc' := 166) (ls' := [some (.ref 114), some (.int 3), some (.int w), some (.int u), some (.int z), some (.int 1), some (.int 0), none]) (st' := []) rfl rfl ?_
                        refine wp_s (i := .goto (-121)) (n := 3) (pc' := 45) (st' := []) rfl rfl ?_
                        refine wp_s (i := .iload 6) (n := 2) (pc' := 47) (st' := [.int 0]) rfl rfl ?_
                        refine wp_s (i := .iload 4) (n := 2) (pc' := 49) (st' := [.int z, .int 0]) rfl rfl ?_
                        refine wp_ic (t := 169) (st := []) rfl rfl (fun hc30 => ?_) (fun hc30 => ?_)
                        · skip
                          show mm_Wp _ _ _ 169 _ _ _ _
                          refine wp_s (i := .iconst 0) (n := 1) (pc' := 170) (st' := [.int 0]) rfl rfl ?_
                          refine wp_s (i := .istore 7) (n := 2) (pc' := 172) (ls' := [some (.ref 114), some (.int 3), some (.int w), some (.int u), some (.int z), some (.int 1), some (.int 0), some (.int 0)]) (st' := []) rfl rfl ?_
                          refine wp_s (i := .iload 7) (n := 2) (pc' := 174) (st' := [.int 0]) rfl rfl ?_
                          refine wp_s (i := .iload 6) (n := 2) (pc' := 176) (st' := [.int 0, .int 0]) rfl rfl ?_
                          refine wp_s (i := .if_icmp .ge 29) (n := 3) (pc' := 205) (st' := []) rfl rfl ?_
                          refine wp_s (i := .aload_n 0) (n := 1) (pc' := 206) (st' := [.ref 114]) rfl rfl ?_
                          refine wp_s (i := .iload 5) (n := 2) (pc' := 208) (st' := [.int 1, .ref 114]) rfl rfl ?_
                          refine wp_pf (idx := 287) (a := 114) (fs' := [.ref 115, .int 0, .int 0, .int 0, .int 0, .int 0, .int 0, .ref 116, .ref 117, .ref 118, .ref 119, .ref 120, .ref 121, .ref 122, .ref 123, .ref 124, .ref 125, .int 0, .int 0, .int 0, .int 0, .ref 126, .int 0, .int 0, .int 0, .int 0, .int 0, .int 0, .int 0, .int 0, .ref 127, .ref 128, .ref 129, .ref 130, .int 0, .ref 131, .ref 132, .int 0, .int 0, .int 0, .int 0, .ref 133, .ref 134, .ref 135, .ref 136, .int 1]) (pc' := 211) rfl rfl rfl (mm_sn rfl hb_114) rfl rfl rfl rfl rfl ?_
                          refine wp_s (i := .iload 6) (n := 2) (pc' := 213) (st' := [.int 0]) rfl rfl ?_
                          refine wp_r (i := .ireturn) (n := 1) (v := some (.int 0)) rfl rfl ?_
                          exact ⟨rfl, (pk_okS (pk_okS pk_ok0 hb_0 rfl) (mm_sn rfl hb_114) rfl)⟩
                        · skip
                          show mm_Wp _ _ _ 52 _ _ _ _
                          refine wp_s (i := .iload 5) (n := 2) (pc' := 54) (st' := [.int 1]) rfl rfl ?_
                          refine wp_s (i := .ifCond .ne 115) (n := 3) (pc' := 169) (st' := []) rfl rfl ?_
                          refine wp_s (i := .iconst 0) (n := 1) (pc' := 170) (st' := [.int 0]) rfl rfl ?_
                          refine wp_s (i := .istore 7) (n := 2) (pc' := 172) (ls' := [some (.ref 114), some (.int 3), some (.int w), some (.int u), some (.int z), some (.int 1), some (.int 0), some (.int 0)]) (st' := []) rfl rfl ?_
                          refine wp_s (i := .iload 7) (n := 2) (pc' := 174) (st' := [.int 0]) rfl rfl ?_
                          refine wp_s (i := .iload 6) (n := 2) (pc' := 176) (st' := [.int 0, .int 0]) rfl rfl ?_
                          refine wp_s (i := .if_icmp .ge 29) (n := 3) (pc' := 205) (st' := []) rfl rfl ?_
                          refine wp_s (i := .aload_n 0) (n := 1) (pc' := 206) (st' := [.ref 114]) rfl rfl ?_
                          refine wp_s (i := .iload 5) (n := 2) (pc' := 208) (st' := [.int 1, .ref 114]) rfl rfl ?_
                          refine wp_pf (idx := 287) (a := 114) (fs' := [.ref 115, .int 0, .int 0, .int 0, .int 0, .int 0, .int 0, .ref 116, .ref 117, .ref 118, .ref 119, .ref 120, .ref 121, .ref 122, .ref 123, .ref 124, .ref 125, .int 0, .int 0, .int 0, .int 0, .ref 126, .int 0, .int 0, .int 0, .int 0, .int 0, .int 0, .int 0, .int 0, .ref 127, .ref 128, .ref 129, .ref 130, .int 0, .ref 131, .ref 132, .int 0, .int 0, .int 0, .int 0, .ref 133, .ref 134, .ref 135, .ref 136, .int 1]) (pc' := 211) rfl rfl rfl (mm_sn rfl hb_114) rfl rfl rfl rfl rfl ?_
                          refine wp_s (i := .iload 6) (n := 2) (pc' := 213) (st' := [.int 0]) rfl rfl ?_
                          refine wp_r (i := .ireturn) (n := 1) (v := some (.int 0)) rfl rfl ?_
                          exact ⟨rfl, (pk_okS (pk_okS pk_ok0 hb_0 rfl) (mm_sn rfl hb_114) rfl)⟩
        · skip
          have q10 : (z).toInt > 12 := by have := mc_f_le hc10; simpa using this
          show mm_Wp _ _ _ 26 _ _ _ _
          refine wp_s (i := .iconst (-1)) (n := 1) (pc' := 27) (st' := [.int (-1)]) rfl rfl ?_
          refine wp_r (i := .ireturn) (n := 1) (v := some (.int (-1))) rfl rfl ?_
          refine ⟨(-1), rfl, ⟨_, hb_114⟩, ?_⟩
          show mm_Wp X 12 mm_r189 0 [some (.ref 114), some (.int 3), some (.int w), some (.int u), some (.int z), none, none, none] [] _ _
          refine wp_s (i := .iload_n 1) (n := 1) (pc' := 1) (st' := [.int 3]) rfl rfl ?_
          refine wp_s (i := .i2l) (n := 1) (pc' := 2) (st' := [.long 3]) rfl rfl ?_
          refine wp_s (i := .lconst 0) (n := 1) (pc' := 3) (st' := [.long 0, .long 3]) rfl rfl ?_
          refine wp_s (i := .ldc2_w 285) (n := 3) (pc' := 6) (st' := [.long 3, .long 0, .long 3]) rfl rfl ?_
          refine wp_c (i := .invokestatic 81) (n := 3) (Dq := 11) (r' := mm_r120) (as := [.long 3, .long 0, .long 3]) (rest := []) (ls' := [some (.long 3), none, some (.long 0), none, some (.long 3), none]) rfl rfl rfl ?_
          refine wp_x 16 (v := some (.int 1)) (h' := hp_0) (mm_dec (by decide +kernel)) ?_
          show mm_Wp X 12 mm_r189 9 [some (.ref 114), some (.int 3), some (.int w), some (.int u), some (.int z), none, none, none] [.int 1] _ _
          refine wp_s (i := .ifCond .eq 28) (n := 3) (pc' := 12) (st' := []) rfl rfl ?_
          refine wp_s (i := .iload_n 2) (n := 1) (pc' := 13) (st' := [.int w]) rfl rfl ?_
          refine wp_s (i := .i2l) (n := 1) (pc' := 14) (st' := [.long ((w).toInt64)]) rfl rfl ?_
          refine wp_s (i := .lconst 0) (n := 1) (pc' := 15) (st' := [.long 0, .long ((w).toInt64)]) rfl rfl ?_
          refine wp_s (i := .ldc2_w 198) (n := 3) (pc' := 18) (st' := [.long 2, .long 0, .long ((w).toInt64)]) rfl rfl ?_
          refine wp_c (i := .invokestatic 81) (n := 3) (Dq := 11) (r' := mm_r120) (as := [.long ((w).toInt64), .long 0, .long 2]) (rest := []) (ls' := [some (.long ((w).toInt64)), none, some (.long 0), none, some (.long 2), none]) rfl rfl rfl ?_
          refine wp_s (i := .lload_n 0) (n := 1) (pc' := 1) (st' := [.long ((w).toInt64)]) rfl rfl ?_
          refine wp_s (i := .lload_n 2) (n := 1) (pc' := 2) (st' := [.long 0, .long ((w).toInt64)]) rfl rfl ?_
          refine wp_s (i := .lcmp) (n := 1) (pc' := 3) (st' := [.int (lg_cmp ((w).toInt64) 0)]) rfl rfl ?_
          refine wp_if (t := 17) (st := []) rfl rfl (fun hc31 => ?_) (fun hc31 => ?_)
          · skip
            have q31 : (w).toInt < 0 := by have := lc_t_lt hc31; simpa using this
            exfalso; omega
          · skip
            have q31 : (w).toInt ≥ 0 := by have := lc_f_lt hc31; simpa using this
            show mm_Wp _ _ _ 6 _ _ _ _
            refine wp_s (i := .lload_n 0) (n := 1) (pc' := 7) (st' := [.long ((w).toInt64)]) rfl rfl ?_
            refine wp_s (i := .lload 4) (n := 2) (pc' := 9) (st' := [.long 2, .long ((w).toInt64)]) rfl rfl ?_
            refine wp_s (i := .lcmp) (n := 1) (pc' := 10) (st' := [.int (lg_cmp ((w).toInt64) 2)]) rfl rfl ?_
            refine wp_if (t := 17) (st := []) rfl rfl (fun hc32 => ?_) (fun hc32 => ?_)
            · skip
              have q32 : (w).toInt > 2 := by have := lc_t_gt hc32; simpa using this
              exfalso; omega
            · skip
              have q32 : (w).toInt ≤ 2 := by have := lc_f_gt hc32; simpa using this
              show mm_Wp _ _ _ 13 _ _ _ _
              refine wp_s (i := .iconst 1) (n := 1) (pc' := 14) (st' := [.int 1]) rfl rfl ?_
              refine wp_s (i := .goto 4) (n := 3) (pc' := 18) (st' := [.int 1]) rfl rfl ?_
              refine wp_r (i := .ireturn) (n := 1) (v := some (.int 1)) rfl rfl ?_
              show mm_Wp X 12 mm_r189 21 [some (.ref 114), some (.int 3), some (.int w), some (.int u), some (.int z), none, none, none] [.int 1] _ _
              refine wp_s (i := .ifCond .eq 16) (n := 3) (pc' := 24) (st' := []) rfl rfl ?_
              refine wp_s (i := .iload 4) (n := 2) (pc' := 26) (st' := [.int z]) rfl rfl ?_
              refine wp_s (i := .i2l) (n := 1) (pc' := 27) (st' := [.long ((z).toInt64)]) rfl rfl ?_
              refine wp_s (i := .lconst 0) (n := 1) (pc' := 28) (st' := [.long 0, .long ((z).toInt64)]) rfl rfl ?_
              refine wp_s (i := .ldc2_w 277) (n := 3) (pc' := 31) (st' := [.long 12, .long 0, .long ((z).toInt64)]) rfl rfl ?_
              refine wp_c (i := .invokestatic 81) (n := 3) (Dq := 11) (r' := mm_r120) (as := [.long ((z).toInt64), .long 0, .long 12]) (rest := []) (ls' := [some (.long ((z).toInt64)), none, some (.long 0), none, some (.long 12), none]) rfl rfl rfl ?_
              refine wp_s (i := .lload_n 0) (n := 1) (pc' := 1) (st' := [.long ((z).toInt64)]) rfl rfl ?_
              refine wp_s (i := .lload_n 2) (n := 1) (pc' := 2) (st' := [.long 0, .long ((z).toInt64)]) rfl rfl ?_
              refine wp_s (i := .lcmp) (n := 1) (pc' := 3) (st' := [.int (lg_cmp ((z).toInt64) 0)]) rfl rfl ?_
              refine wp_if (t := 17) (st := []) rfl rfl (fun hc33 => ?_) (fun hc33 => ?_)
              · skip
                have q33 : (z).toInt < 0 := by have := lc_t_lt hc33; simpa using this
                exfalso; omega
              · skip
                have q33 : (z).toInt ≥ 0 := by have := lc_f_lt hc33; simpa using this
                show mm_Wp _ _ _ 6 _ _ _ _
                refine wp_s (i := .lload_n 0) (n := 1) (pc' := 7) (st' := [.long ((z).toInt64)]) rfl rfl ?_
                refine wp_s (i := .lload 4) (n := 2) (pc' := 9) (st' := [.long 12, .long ((z).toInt64)]) rfl rfl ?_
                refine wp_s (i := .lcmp) (n := 1) (pc' := 10) (st' := [.int (lg_cmp ((z).toInt64) 12)]) rfl rfl ?_
                refine wp_if (t := 17) (st := []) rfl rfl (fun hc34 => ?_) (fun hc34 => ?_)
                · skip
                  have q34 : (z).toInt > 12 := by have := lc_t_gt hc34; simpa using this
                  show mm_Wp _ _ _ 17 _ _ _ _
                  refine wp_s (i := .iconst 0) (n := 1) (pc' := 18) (st' := [.int 0]) rfl rfl ?_
                  refine wp_r (i := .ireturn) (n := 1) (v := some (.int 0)) rfl rfl ?_
                  show mm_Wp X 12 mm_r189 34 [some (.ref 114), some (.int 3), some (.int w), some (.int u), some (.int z), none, none, none] [.int 0] _ _
                  refine wp_s (i := .ifCond .ne 5) (n := 3) (pc' := 37) (st' := []) rfl rfl ?_
                  refine wp_s (i := .iconst (-1)) (n := 1) (pc' := 38) (st' := [.int (-1)]) rfl rfl ?_
                  refine wp_r (i := .ireturn) (n := 1) (v := some (.int (-1))) rfl rfl ?_
                  exact ⟨rfl, pk_ok0⟩
                · skip
                  have q34 : (z).toInt ≤ 12 := by have := lc_f_gt hc34; simpa using this
                  exfalso; omega
set_option maxRecDepth 20000 in
set_option maxHeartbeats 4000000 in
theorem pk_35_o (X : Option (List Int32)) (n w u z : Int32) (he0 : ¬ n = 0) (he1 : ¬ n = 1) (he2 : ¬ n = 2) (he3 : ¬ n = 3) : mm_Wp X 12 mm_r100 0 [some (.ref 0), some (.int n), some (.int w), some (.int u), some (.int z), none, none, none, none] [] hp_0 (fun v1 h1 => ∃ x : Int32, v1 = some (.int x) ∧ (∃ fs, h1[114]? = some (.inr (10, fs))) ∧ mm_Wp X 12 mm_r189 0 [some (.ref 114), some (.int n), some (.int w), some (.int u), some (.int z), none, none, none] [] h1 (fun v2 h2 => v2 = some (.int x) ∧ pk_ok h2)) := by
  have hf0 : n.toInt ≠ 0 := fun q => he0 (Int32.toInt_inj.mp (by rw [q]; rfl))
  have hf1 : n.toInt ≠ 1 := fun q => he1 (Int32.toInt_inj.mp (by rw [q]; rfl))
  have hf2 : n.toInt ≠ 2 := fun q => he2 (Int32.toInt_inj.mp (by rw [q]; rfl))
  have hf3 : n.toInt ≠ 3 := fun q => he3 (Int32.toInt_inj.mp (by rw [q]; rfl))
  refine wp_s (i := .iload_n 1) (n := 1) (pc' := 1) (st' := [.int n]) rfl rfl ?_
  refine wp_c (i := .invokestatic 301) (n := 3) (Dq := 11) (r' := mm_r107) (as := [.int n]) (rest := []) (ls' := [some (.int n)]) rfl rfl rfl ?_
  refine wp_s (i := .iload_n 0) (n := 1) (pc' := 1) (st' := [.int n]) rfl rfl ?_
  refine wp_if (t := 13) (st := []) rfl rfl (fun hc1 => ?_) (fun hc1 => ?_)
  · skip
    have q1 : (n).toInt < 0 := by have := mc_t_lt hc1; simpa using this
    show mm_Wp _ _ _ 13 _ _ _ _
    refine wp_s (i := .iconst 0) (n := 1) (pc' := 14) (st' := [.int 0]) rfl rfl ?_
    refine wp_r (i := .ireturn) (n := 1) (v := some (.int 0)) rfl rfl ?_
    show mm_Wp X 12 mm_r100 4 [some (.ref 0), some (.int n), some (.int w), some (.int u), some (.int z), none, none, none, none] [.int 0] _ _
    refine wp_s (i := .ifCond .eq 22) (n := 3) (pc' := 26) (st' := []) rfl rfl ?_
    refine wp_s (i := .iconst (-1)) (n := 1) (pc' := 27) (st' := [.int (-1)]) rfl rfl ?_
    refine wp_r (i := .ireturn) (n := 1) (v := some (.int (-1))) rfl rfl ?_
    refine ⟨(-1), rfl, ⟨_, hb_114⟩, ?_⟩
    show mm_Wp X 12 mm_r189 0 [some (.ref 114), some (.int n), some (.int w), some (.int u), some (.int z), none, none, none] [] _ _
    refine wp_s (i := .iload_n 1) (n := 1) (pc' := 1) (st' := [.int n]) rfl rfl ?_
    refine wp_s (i := .i2l) (n := 1) (pc' := 2) (st' := [.long ((n).toInt64)]) rfl rfl ?_
    refine wp_s (i := .lconst 0) (n := 1) (pc' := 3) (st' := [.long 0, .long ((n).toInt64)]) rfl rfl ?_
    refine wp_s (i := .ldc2_w 285) (n := 3) (pc' := 6) (st' := [.long 3, .long 0, .long ((n).toInt64)]) rfl rfl ?_
    refine wp_c (i := .invokestatic 81) (n := 3) (Dq := 11) (r' := mm_r120) (as := [.long ((n).toInt64), .long 0, .long 3]) (rest := []) (ls' := [some (.long ((n).toInt64)), none, some (.long 0), none, some (.long 3), none]) rfl rfl rfl ?_
    refine wp_s (i := .lload_n 0) (n := 1) (pc' := 1) (st' := [.long ((n).toInt64)]) rfl rfl ?_
    refine wp_s (i := .lload_n 2) (n := 1) (pc' := 2) (st' := [.long 0, .long ((n).toInt64)]) rfl rfl ?_
    refine wp_s (i := .lcmp) (n := 1) (pc' := 3) (st' := [.int (lg_cmp ((n).toInt64) 0)]) rfl rfl ?_
    refine wp_if (t := 17) (st := []) rfl rfl (fun hc2 => ?_) (fun hc2 => ?_)
    · skip
      have q2 : (n).toInt < 0 := by have := lc_t_lt hc2; simpa using this
      show mm_Wp _ _ _ 17 _ _ _ _
      refine wp_s (i := .iconst 0) (n := 1) (pc' := 18) (st' := [.int 0]) rfl rfl ?_
      refine wp_r (i := .ireturn) (n := 1) (v := some (.int 0)) rfl rfl ?_
      show mm_Wp X 12 mm_r189 9 [some (.ref 114), some (.int n), some (.int w), some (.int u), some (.int z), none, none, none] [.int 0] _ _
      refine wp_s (i := .ifCond .eq 28) (n := 3) (pc' := 37) (st' := []) rfl rfl ?_
      refine wp_s (i := .iconst (-1)) (n := 1) (pc' := 38) (st' := [.int (-1)]) rfl rfl ?_
      refine wp_r (i := .ireturn) (n := 1) (v := some (.int (-1))) rfl rfl ?_
      exact ⟨rfl, pk_ok0⟩
    · skip
      have q2 : (n).toInt ≥ 0 := by have := lc_f_lt hc2; simpa using this
      exfalso; omega
  · skip
    have q1 : (n).toInt ≥ 0 := by have := mc_f_lt hc1; simpa using this
    show mm_Wp _ _ _ 4 _ _ _ _
    refine wp_s (i := .iload_n 0) (n := 1) (pc' := 5) (st' := [.int n]) rfl rfl ?_
    refine wp_s (i := .iconst 4) (n := 1) (pc' := 6) (st' := [.int 4, .int n]) rfl rfl ?_
    refine wp_ic (t := 13) (st := []) rfl rfl (fun hc3 => ?_) (fun hc3 => ?_)
    · skip
      have q3 : (n).toInt ≥ 4 := by have := mc_t_ge hc3; simpa using this
      show mm_Wp _ _ _ 13 _ _ _ _
      refine wp_s (i := .iconst 0) (n := 1) (pc' := 14) (st' := [.int 0]) rfl rfl ?_
      refine wp_r (i := .ireturn) (n := 1) (v := some (.int 0)) rfl rfl ?_
      show mm_Wp X 12 mm_r100 4 [some (.ref 0), some (.int n), some (.int w), some (.int u), some (.int z), none, none, none, none] [.int 0] _ _
      refine wp_s (i := .ifCond .eq 22) (n := 3) (pc' := 26) (st' := []) rfl rfl ?_
      refine wp_s (i := .iconst (-1)) (n := 1) (pc' := 27) (st' := [.int (-1)]) rfl rfl ?_
      refine wp_r (i := .ireturn) (n := 1) (v := some (.int (-1))) rfl rfl ?_
      refine ⟨(-1), rfl, ⟨_, hb_114⟩, ?_⟩
      show mm_Wp X 12 mm_r189 0 [some (.ref 114), some (.int n), some (.int w), some (.int u), some (.int z), none, none, none] [] _ _
      refine wp_s (i := .iload_n 1) (n := 1) (pc' := 1) (st' := [.int n]) rfl rfl ?_
      refine wp_s (i := .i2l) (n := 1) (pc' := 2) (st' := [.long ((n).toInt64)]) rfl rfl ?_
      refine wp_s (i := .lconst 0) (n := 1) (pc' := 3) (st' := [.long 0, .long ((n).toInt64)]) rfl rfl ?_
      refine wp_s (i := .ldc2_w 285) (n := 3) (pc' := 6) (st' := [.long 3, .long 0, .long ((n).toInt64)]) rfl rfl ?_
      refine wp_c (i := .invokestatic 81) (n := 3) (Dq := 11) (r' := mm_r120) (as := [.long ((n).toInt64), .long 0, .long 3]) (rest := []) (ls' := [some (.long ((n).toInt64)), none, some (.long 0), none, some (.long 3), none]) rfl rfl rfl ?_
      refine wp_s (i := .lload_n 0) (n := 1) (pc' := 1) (st' := [.long ((n).toInt64)]) rfl rfl ?_
      refine wp_s (i := .lload_n 2) (n := 1) (pc' := 2) (st' := [.long 0, .long ((n).toInt64)]) rfl rfl ?_
      refine wp_s (i := .lcmp) (n := 1) (pc' := 3) (st' := [.int (lg_cmp ((n).toInt64) 0)]) rfl rfl ?_
      refine wp_if (t := 17) (st := []) rfl rfl (fun hc4 => ?_) (fun hc4 => ?_)
      · skip
        have q4 : (n).toInt < 0 := by have := lc_t_lt hc4; simpa using this
        exfalso; omega
      · skip
        have q4 : (n).toInt ≥ 0 := by have := lc_f_lt hc4; simpa using this
        show mm_Wp _ _ _ 6 _ _ _ _
        refine wp_s (i := .lload_n 0) (n := 1) (pc' := 7) (st' := [.long ((n).toInt64)]) rfl rfl ?_
        refine wp_s (i := .lload 4) (n := 2) (pc' := 9) (st' := [.long 3, .long ((n).toInt64)]) rfl rfl ?_
        refine wp_s (i := .lcmp) (n := 1) (pc' := 10) (st' := [.int (lg_cmp ((n).toInt64) 3)]) rfl rfl ?_
        refine wp_if (t := 17) (st := []) rfl rfl (fun hc5 => ?_) (fun hc5 => ?_)
        · skip
          have q5 : (n).toInt > 3 := by have := lc_t_gt hc5; simpa using this
          show mm_Wp _ _ _ 17 _ _ _ _
          refine wp_s (i := .iconst 0) (n := 1) (pc' := 18) (st' := [.int 0]) rfl rfl ?_
          refine wp_r (i := .ireturn) (n := 1) (v := some (.int 0)) rfl rfl ?_
          show mm_Wp X 12 mm_r189 9 [some (.ref 114), some (.int n), some (.int w), some (.int u), some (.int z), none, none, none] [.int 0] _ _
          refine wp_s (i := .ifCond .eq 28) (n := 3) (pc' := 37) (st' := []) rfl rfl ?_
          refine wp_s (i := .iconst (-1)) (n := 1) (pc' := 38) (st' := [.int (-1)]) rfl rfl ?_
          refine wp_r (i := .ireturn) (n := 1) (v := some (.int (-1))) rfl rfl ?_
          exact ⟨rfl, pk_ok0⟩
        · skip
          have q5 : (n).toInt ≤ 3 := by have := lc_f_gt hc5; simpa using this
          exfalso; omega
    · skip
      have q3 : (n).toInt < 4 := by have := mc_f_ge hc3; simpa using this
      exfalso; omega
theorem pk_35 (X : Option (List Int32)) (n w u z : Int32) : mm_Wp X 12 mm_r100 0 [some (.ref 0), some (.int n), some (.int w), some (.int u), some (.int z), none, none, none, none] [] hp_0 (fun v1 h1 => ∃ x : Int32, v1 = some (.int x) ∧ (∃ fs, h1[114]? = some (.inr (10, fs))) ∧ mm_Wp X 12 mm_r189 0 [some (.ref 114), some (.int n), some (.int w), some (.int u), some (.int z), none, none, none] [] h1 (fun v2 h2 => v2 = some (.int x) ∧ pk_ok h2)) := by
  by_cases he0 : n = 0
  · subst he0; exact pk_35_0 X w u z
  by_cases he1 : n = 1
  · subst he1; exact pk_35_1 X w u z
  by_cases he2 : n = 2
  · subst he2; exact pk_35_2 X w u z
  by_cases he3 : n = 3
  · subst he3; exact pk_35_3 X w u z
  exact pk_35_o X n w u z he0 he1 he2 he3
