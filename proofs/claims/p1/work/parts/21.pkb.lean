set_option maxRecDepth 20000 in
set_option maxHeartbeats 4000000 in
theorem pk_10_0 (X : Option (List Int32))  : mm_Wp X 12 mm_r75 0 [some (.ref 0), some (.int 0), none] [] hp_0 (fun v1 h1 => ∃ x : Int32, v1 = some (.int x) ∧ (∃ fs, h1[114]? = some (.inr (10, fs))) ∧ mm_Wp X 12 mm_r149 0 [some (.ref 114), some (.int 0), none] [] h1 (fun v2 h2 => v2 = some (.int x) ∧ pk_ok h2)) := by
  refine wp_x 56 (v := some (.int 0)) (h' := hp_0) (mm_dec (by decide +kernel)) ?_
  refine ⟨0, rfl, ⟨_, hb_114⟩, ?_⟩
  show mm_Wp X 12 mm_r149 0 [some (.ref 114), some (.int 0), none] [] _ _
  refine wp_x 64 (v := some (.int 0)) (h' := hp_0) (mm_dec (by decide +kernel)) ?_
  exact ⟨rfl, pk_ok0⟩
set_option maxRecDepth 20000 in
set_option maxHeartbeats 4000000 in
theorem pk_10_o (X : Option (List Int32)) (n : Int32) (he0 : ¬ n = 0) : mm_Wp X 12 mm_r75 0 [some (.ref 0), some (.int n), none] [] hp_0 (fun v1 h1 => ∃ x : Int32, v1 = some (.int x) ∧ (∃ fs, h1[114]? = some (.inr (10, fs))) ∧ mm_Wp X 12 mm_r149 0 [some (.ref 114), some (.int n), none] [] h1 (fun v2 h2 => v2 = some (.int x) ∧ pk_ok h2)) := by
  have hf0 : n.toInt ≠ 0 := fun q => he0 (Int32.toInt_inj.mp (by rw [q]; rfl))
  refine wp_s (i := .iload_n 1) (n := 1) (pc' := 1) (st' := [.int n]) rfl rfl ?_
  refine wp_if (t := 12) (st := []) rfl rfl (fun hc1 => ?_) (fun hc1 => ?_)
  · skip
    have q1 : (n).toInt < 0 := by have := mc_t_lt hc1; simpa using this
    show mm_Wp _ _ _ 12 _ _ _ _
    refine wp_s (i := .iconst (-1)) (n := 1) (pc' := 13) (st' := [.int (-1)]) rfl rfl ?_
    refine wp_r (i := .ireturn) (n := 1) (v := some (.int (-1))) rfl rfl ?_
    refine ⟨(-1), rfl, ⟨_, hb_114⟩, ?_⟩
    show mm_Wp X 12 mm_r149 0 [some (.ref 114), some (.int n), none] [] _ _
    refine wp_s (i := .iload_n 1) (n := 1) (pc' := 1) (st' := [.int n]) rfl rfl ?_
    refine wp_s (i := .i2l) (n := 1) (pc' := 2) (st' := [.long ((n).toInt64)]) rfl rfl ?_
    refine wp_s (i := .lconst 0) (n := 1) (pc' := 3) (st' := [.long 0, .long ((n).toInt64)]) rfl rfl ?_
    refine wp_s (i := .aload_n 0) (n := 1) (pc' := 4) (st' := [.ref 114, .long 0, .long ((n).toInt64)]) rfl rfl ?_
    refine wp_c (i := .invokevirtual 200) (n := 3) (Dq := 11) (r' := mm_r146) (as := [.ref 114]) (rest := [.long 0, .long ((n).toInt64)]) (ls' := [some (.ref 114), none, none]) rfl rfl rfl ?_
    refine wp_x 15 (v := some (.int 1)) (h' := hp_0) (mm_dec (by decide +kernel)) ?_
    show mm_Wp X 12 mm_r149 7 [some (.ref 114), some (.int n), none] [.int 1, .long 0, .long ((n).toInt64)] _ _
    refine wp_s (i := .iconst 1) (n := 1) (pc' := 8) (st' := [.int 1, .int 1, .long 0, .long ((n).toInt64)]) rfl rfl ?_
    refine wp_s (i := .isub) (n := 1) (pc' := 9) (st' := [.int 0, .long 0, .long ((n).toInt64)]) rfl rfl ?_
    refine wp_s (i := .i2l) (n := 1) (pc' := 10) (st' := [.long 0, .long 0, .long ((n).toInt64)]) rfl rfl ?_
    refine wp_c (i := .invokestatic 81) (n := 3) (Dq := 11) (r' := mm_r120) (as := [.long ((n).toInt64), .long 0, .long 0]) (rest := []) (ls' := [some (.long ((n).toInt64)), none, some (.long 0), none, some (.long 0), none]) rfl rfl rfl ?_
    refine wp_s (i := .lload_n 0) (n := 1) (pc' := 1) (st' := [.long ((n).toInt64)]) rfl rfl ?_
    refine wp_s (i := .lload_n 2) (n := 1) (pc' := 2) (st' := [.long 0, .long ((n).toInt64)]) rfl rfl ?_
    refine wp_s (i := .lcmp) (n := 1) (pc' := 3) (st' := [.int (lg_cmp ((n).toInt64) 0)]) rfl rfl ?_
    refine wp_if (t := 17) (st := []) rfl rfl (fun hc2 => ?_) (fun hc2 => ?_)
    · skip
      have q2 : (n).toInt < 0 := by have := lc_t_lt hc2; simpa using this
      show mm_Wp _ _ _ 17 _ _ _ _
      refine wp_s (i := .iconst 0) (n := 1) (pc' := 18) (st' := [.int 0]) rfl rfl ?_
      refine wp_r (i := .ireturn) (n := 1) (v := some (.int 0)) rfl rfl ?_
      show mm_Wp X 12 mm_r149 13 [some (.ref 114), some (.int n), none] [.int 0] _ _
      refine wp_s (i := .ifCond .ne 5) (n := 3) (pc' := 16) (st' := []) rfl rfl ?_
      refine wp_s (i := .iconst (-1)) (n := 1) (pc' := 17) (st' := [.int (-1)]) rfl rfl ?_
      refine wp_r (i := .ireturn) (n := 1) (v := some (.int (-1))) rfl rfl ?_
      exact ⟨rfl, pk_ok0⟩
    · skip
      have q2 : (n).toInt ≥ 0 := by have := lc_f_lt hc2; simpa using this
      exfalso; omega
  · skip
    have q1 : (n).toInt ≥ 0 := by have := mc_f_lt hc1; simpa using this
    show mm_Wp _ _ _ 4 _ _ _ _
    refine wp_s (i := .iload_n 1) (n := 1) (pc' := 5) (st' := [.int n]) rfl rfl ?_
    refine wp_s (i := .aload_n 0) (n := 1) (pc' := 6) (st' := [.ref 0, .int n]) rfl rfl ?_
    refine wp_c (i := .invokevirtual 182) (n := 3) (Dq := 11) (r' := mm_r114) (as := [.ref 0]) (rest := [.int n]) (ls' := [some (.ref 0), none, none]) rfl rfl rfl ?_
    refine wp_x 16 (v := some (.int 1)) (h' := hp_0) (mm_dec (by decide +kernel)) ?_
    show mm_Wp X 12 mm_r75 9 [some (.ref 0), some (.int n), none] [.int 1, .int n] _ _
    refine wp_ic (t := 14) (st := []) rfl rfl (fun hc3 => ?_) (fun hc3 => ?_)
    · skip
      have q3 : (n).toInt < 1 := by have := mc_t_lt hc3; simpa using this
      exfalso; omega
    · skip
      have q3 : (n).toInt ≥ 1 := by have := mc_f_lt hc3; simpa using this
      show mm_Wp _ _ _ 12 _ _ _ _
      refine wp_s (i := .iconst (-1)) (n := 1) (pc' := 13) (st' := [.int (-1)]) rfl rfl ?_
      refine wp_r (i := .ireturn) (n := 1) (v := some (.int (-1))) rfl rfl ?_
      refine ⟨(-1), rfl, ⟨_, hb_114⟩, ?_⟩
      show mm_Wp X 12 mm_r149 0 [some (.ref 114), some (.int n), none] [] _ _
      refine wp_s (i := .iload_n 1) (n := 1) (pc' := 1) (st' := [.int n]) rfl rfl ?_
      refine wp_s (i := .i2l) (n := 1) (pc' := 2) (st' := [.long ((n).toInt64)]) rfl rfl ?_
      refine wp_s (i := .lconst 0) (n := 1) (pc' := 3) (st' := [.long 0, .long ((n).toInt64)]) rfl rfl ?_
      refine wp_s (i := .aload_n 0) (n := 1) (pc' := 4) (st' := [.ref 114, .long 0, .long ((n).toInt64)]) rfl rfl ?_
      refine wp_c (i := .invokevirtual 200) (n := 3) (Dq := 11) (r' := mm_r146) (as := [.ref 114]) (rest := [.long 0, .long ((n).toInt64)]) (ls' := [some (.ref 114), none, none]) rfl rfl rfl ?_
      refine wp_x 15 (v := some (.int 1)) (h' := hp_0) (mm_dec (by decide +kernel)) ?_
      show mm_Wp X 12 mm_r149 7 [some (.ref 114), some (.int n), none] [.int 1, .long 0, .long ((n).toInt64)] _ _
      refine wp_s (i := .iconst 1) (n := 1) (pc' := 8) (st' := [.int 1, .int 1, .long 0, .long ((n).toInt64)]) rfl rfl ?_
      refine wp_s (i := .isub) (n := 1) (pc' := 9) (st' := [.int 0, .long 0, .long ((n).toInt64)]) rfl rfl ?_
      refine wp_s (i := .i2l) (n := 1) (pc' := 10) (st' := [.long 0, .long 0, .long ((n).toInt64)]) rfl rfl ?_
      refine wp_c (i := .invokestatic 81) (n := 3) (Dq := 11) (r' := mm_r120) (as := [.long ((n).toInt64), .long 0, .long 0]) (rest := []) (ls' := [some (.long ((n).toInt64)), none, some (.long 0), none, some (.long 0), none]) rfl rfl rfl ?_
      refine wp_s (i := .lload_n 0) (n := 1) (pc' := 1) (st' := [.long ((n).toInt64)]) rfl rfl ?_
      refine wp_s (i := .lload_n 2) (n := 1) (pc' := 2) (st' := [.long 0, .long ((n).toInt64)]) rfl rfl ?_
      refine wp_s (i := .lcmp) (n := 1) (pc' := 3) (st' := [.int (lg_cmp ((n).toInt64) 0)]) rfl rfl ?_
      refine wp_if (t := 17) (st := []) rfl rfl (fun hc4 => ?_) (fun hc4 => ?_)
      · skip
        have q4 : (n).toInt < 0 := by have := lc_t_lt hc4; simpa using this
        exfalso; omega
      · skip
        have q4 : (n).toInt ≥ 0 := by have := lc_f_lt hc4; simpa using this
        show mm_Wp _ _ _ 6 _ _ _ _
        refine wp_s (i := .lload_n 0) (n := 1) (pc' := 7) (st' := [.long ((n).toInt64)]) rfl rfl ?_
        refine wp_s (i := .lload 4) (n := 2) (pc' := 9) (st' := [.long 0, .long ((n).toInt64)]) rfl rfl ?_
        refine wp_s (i := .lcmp) (n := 1) (pc' := 10) (st' := [.int (lg_cmp ((n).toInt64) 0)]) rfl rfl ?_
        refine wp_if (t := 17) (st := []) rfl rfl (fun hc5 => ?_) (fun hc5 => ?_)
        · skip
          have q5 : (n).toInt > 0 := by have := lc_t_gt hc5; simpa using this
          show mm_Wp _ _ _ 17 _ _ _ _
          refine wp_s (i := .iconst 0) (n := 1) (pc' := 18) (st' := [.int 0]) rfl rfl ?_
          refine wp_r (i := .ireturn) (n := 1) (v := some (.int 0)) rfl rfl ?_
          show mm_Wp X 12 mm_r149 13 [some (.ref 114), some (.int n), none] [.int 0] _ _
          refine wp_s (i := .ifCond .ne 5) (n := 3) (pc' := 16) (st' := []) rfl rfl ?_
          refine wp_s (i := .iconst (-1)) (n := 1) (pc' := 17) (st' := [.int (-1)]) rfl rfl ?_
          refine wp_r (i := .ireturn) (n := 1) (v := some (.int (-1))) rfl rfl ?_
          exact ⟨rfl, pk_ok0⟩
        · skip
          have q5 : (n).toInt ≤ 0 := by have := lc_f_gt hc5; simpa using this
          exfalso; omega
theorem pk_10 (X : Option (List Int32)) (n : Int32) : mm_Wp X 12 mm_r75 0 [some (.ref 0), some (.int n), none] [] hp_0 (fun v1 h1 => ∃ x : Int32, v1 = some (.int x) ∧ (∃ fs, h1[114]? = some (.inr (10, fs))) ∧ mm_Wp X 12 mm_r149 0 [some (.ref 114), some (.int n), none] [] h1 (fun v2 h2 => v2 = some (.int x) ∧ pk_ok h2)) := by
  by_cases he0 : n = 0
  · subst he0; exact pk_10_0 X 
  exact pk_10_o X n he0
set_option maxRecDepth 20000 in
set_option maxHeartbeats 4000000 in
theorem pk_11 (X : Option (List Int32)) (n : Int32) : mm_Wp X 12 mm_r76 0 [some (.ref 0), some (.int n)] [] hp_0 (fun v1 h1 => ∃ x : Int32, v1 = some (.int x) ∧ (∃ fs, h1[114]? = some (.inr (10, fs))) ∧ mm_Wp X 12 mm_r156 0 [some (.ref 114), some (.int n)] [] h1 (fun v2 h2 => v2 = some (.int x) ∧ pk_ok h2)) := by
  refine wp_s (i := .iload_n 1) (n := 1) (pc' := 1) (st' := [.int n]) rfl rfl ?_
  refine wp_c (i := .invokestatic 194) (n := 3) (Dq := 11) (r' := mm_r109) (as := [.int n]) (rest := []) (ls' := [some (.int n)]) rfl rfl rfl ?_
  refine wp_s (i := .iload_n 0) (n := 1) (pc' := 1) (st' := [.int n]) rfl rfl ?_
  refine wp_if (t := 14) (st := []) rfl rfl (fun hc1 => ?_) (fun hc1 => ?_)
  · skip
    have q1 : (n).toInt < 0 := by have := mc_t_lt hc1; simpa using this
    show mm_Wp _ _ _ 14 _ _ _ _
    refine wp_s (i := .iconst 0) (n := 1) (pc' := 15) (st' := [.int 0]) rfl rfl ?_
    refine wp_r (i := .ireturn) (n := 1) (v := some (.int 0)) rfl rfl ?_
    show mm_Wp X 12 mm_r76 4 [some (.ref 0), some (.int n)] [.int 0] _ _
    refine wp_s (i := .ifCond .ne 5) (n := 3) (pc' := 7) (st' := []) rfl rfl ?_
    refine wp_s (i := .iconst (-1)) (n := 1) (pc' := 8) (st' := [.int (-1)]) rfl rfl ?_
    refine wp_r (i := .ireturn) (n := 1) (v := some (.int (-1))) rfl rfl ?_
    refine ⟨(-1), rfl, ⟨_, hb_114⟩, ?_⟩
    show mm_Wp X 12 mm_r156 0 [some (.ref 114), some (.int n)] [] _ _
    refine wp_s (i := .iload_n 1) (n := 1) (pc' := 1) (st' := [.int n]) rfl rfl ?_
    refine wp_s (i := .i2l) (n := 1) (pc' := 2) (st' := [.long ((n).toInt64)]) rfl rfl ?_
    refine wp_s (i := .lconst 0) (n := 1) (pc' := 3) (st' := [.long 0, .long ((n).toInt64)]) rfl rfl ?_
    refine wp_s (i := .ldc2_w 223) (n := 3) (pc' := 6) (st' := [.long 9, .long 0, .long ((n).toInt64)]) rfl rfl ?_
    refine wp_c (i := .invokestatic 81) (n := 3) (Dq := 11) (r' := mm_r120) (as := [.long ((n).toInt64), .long 0, .long 9]) (rest := []) (ls' := [some (.long ((n).toInt64)), none, some (.long 0), none, some (.long 9), none]) rfl rfl rfl ?_
    refine wp_s (i := .lload_n 0) (n := 1) (pc' := 1) (st' := [.long ((n).toInt64)]) rfl rfl ?_
    refine wp_s (i := .lload_n 2) (n := 1) (pc' := 2) (st' := [.long 0, .long ((n).toInt64)]) rfl rfl ?_
    refine wp_s (i := .lcmp) (n := 1) (pc' := 3) (st' := [.int (lg_cmp ((n).toInt64) 0)]) rfl rfl ?_
    refine wp_if (t := 17) (st := []) rfl rfl (fun hc2 => ?_) (fun hc2 => ?_)
    · skip
      have q2 : (n).toInt < 0 := by have := lc_t_lt hc2; simpa using this
      show mm_Wp _ _ _ 17 _ _ _ _
      refine wp_s (i := .iconst 0) (n := 1) (pc' := 18) (st' := [.int 0]) rfl rfl ?_
      refine wp_r (i := .ireturn) (n := 1) (v := some (.int 0)) rfl rfl ?_
      show mm_Wp X 12 mm_r156 9 [some (.ref 114), some (.int n)] [.int 0] _ _
      refine wp_s (i := .ifCond .eq 12) (n := 3) (pc' := 21) (st' := []) rfl rfl ?_
      refine wp_s (i := .iconst (-1)) (n := 1) (pc' := 22) (st' := [.int (-1)]) rfl rfl ?_
      refine wp_r (i := .ireturn) (n := 1) (v := some (.int (-1))) rfl rfl ?_
      exact ⟨rfl, pk_ok0⟩
    · skip
      have q2 : (n).toInt ≥ 0 := by have := lc_f_lt hc2; simpa using this
      exfalso; omega
  · skip
    have q1 : (n).toInt ≥ 0 := by have := mc_f_lt hc1; simpa using this
    show mm_Wp _ _ _ 4 _ _ _ _
    refine wp_s (i := .iload_n 0) (n := 1) (pc' := 5) (st' := [.int n]) rfl rfl ?_
    refine wp_s (i := .bipush 9) (n := 2) (pc' := 7) (st' := [.int 9, .int n]) rfl rfl ?_
    refine wp_ic (t := 14) (st := []) rfl rfl (fun hc3 => ?_) (fun hc3 => ?_)
    · skip
      have q3 : (n).toInt > 9 := by have := mc_t_gt hc3; simpa using this
      show mm_Wp _ _ _ 14 _ _ _ _
      refine wp_s (i := .iconst 0) (n := 1) (pc' := 15) (st' := [.int 0]) rfl rfl ?_
      refine wp_r (i := .ireturn) (n := 1) (v := some (.int 0)) rfl rfl ?_
      show mm_Wp X 12 mm_r76 4 [some (.ref 0), some (.int n)] [.int 0] _ _
      refine wp_s (i := .ifCond .ne 5) (n := 3) (pc' := 7) (st' := []) rfl rfl ?_
      refine wp_s (i := .iconst (-1)) (n := 1) (pc' := 8) (st' := [.int (-1)]) rfl rfl ?_
      refine wp_r (i := .ireturn) (n := 1) (v := some (.int (-1))) rfl rfl ?_
      refine ⟨(-1), rfl, ⟨_, hb_114⟩, ?_⟩
      show mm_Wp X 12 mm_r156 0 [some (.ref 114), some (.int n)] [] _ _
      refine wp_s (i := .iload_n 1) (n := 1) (pc' := 1) (st' := [.int n]) rfl rfl ?_
      refine wp_s (i := .i2l) (n := 1) (pc' := 2) (st' := [.long ((n).toInt64)]) rfl rfl ?_
      refine wp_s (i := .lconst 0) (n := 1) (pc' := 3) (st' := [.long 0, .long ((n).toInt64)]) rfl rfl ?_
      refine wp_s (i := .ldc2_w 223) (n := 3) (pc' := 6) (st' := [.long 9, .long 0, .long ((n).toInt64)]) rfl rfl ?_
      refine wp_c (i := .invokestatic 81) (n := 3) (Dq := 11) (r' := mm_r120) (as := [.long ((n).toInt64), .long 0, .long 9]) (rest := []) (ls' := [some (.long ((n).toInt64)), none, some (.long 0), none, some (.long 9), none]) rfl rfl rfl ?_
      refine wp_s (i := .lload_n 0) (n := 1) (pc' := 1) (st' := [.long ((n).toInt64)]) rfl rfl ?_
      refine wp_s (i := .lload_n 2) (n := 1) (pc' := 2) (st' := [.long 0, .long ((n).toInt64)]) rfl rfl ?_
      refine wp_s (i := .lcmp) (n := 1) (pc' := 3) (st' := [.int (lg_cmp ((n).toInt64) 0)]) rfl rfl ?_
      refine wp_if (t := 17) (st := []) rfl rfl (fun hc4 => ?_) (fun hc4 => ?_)
      · skip
        have q4 : (n).toInt < 0 := by have := lc_t_lt hc4; simpa using this
        exfalso; omega
      · skip
        have q4 : (n).toInt ≥ 0 := by have := lc_f_lt hc4; simpa using this
        show mm_Wp _ _ _ 6 _ _ _ _
        refine wp_s (i := .lload_n 0) (n := 1) (pc' := 7) (st' := [.long ((n).toInt64)]) rfl rfl ?_
        refine wp_s (i := .lload 4) (n := 2) (pc' := 9) (st' := [.long 9, .long ((n).toInt64)]) rfl rfl ?_
        refine wp_s (i := .lcmp) (n := 1) (pc' := 10) (st' := [.int (lg_cmp ((n).toInt64) 9)]) rfl rfl ?_
        refine wp_if (t := 17) (st := []) rfl rfl (fun hc5 => ?_) (fun hc5 => ?_)
        · skip
          have q5 : (n).toInt > 9 := by have := lc_t_gt hc5; simpa using this
          show mm_Wp _ _ _ 17 _ _ _ _
          refine wp_s (i := .iconst 0) (n := 1) (pc' := 18) (st' := [.int 0]) rfl rfl ?_
          refine wp_r (i := .ireturn) (n := 1) (v := some (.int 0)) rfl rfl ?_
          show mm_Wp X 12 mm_r156 9 [some (.ref 114), some (.int n)] [.int 0] _ _
          refine wp_s (i := .ifCond .eq 12) (n := 3) (pc' := 21) (st' := []) rfl rfl ?_
          refine wp_s (i := .iconst (-1)) (n := 1) (pc' := 22) (st' := [.int (-1)]) rfl rfl ?_
          refine wp_r (i := .ireturn) (n := 1) (v := some (.int (-1))) rfl rfl ?_
          exact ⟨rfl, pk_ok0⟩
        · skip
          have q5 : (n).toInt ≤ 9 := by have := lc_f_gt hc5; simpa using this
          exfalso; omega
    · skip
      have q3 : (n).toInt ≤ 9 := by have := mc_f_gt hc3; simpa using this
      show mm_Wp _ _ _ 10 _ _ _ _
      refine wp_s (i := .iconst 1) (n := 1) (pc' := 11) (st' := [.int 1]) rfl rfl ?_
      refine wp_s (i := .goto 4) (n := 3) (pc' := 15) (st' := [.int 1]) rfl rfl ?_
      refine wp_r (i := .ireturn) (n := 1) (v := some (.int 1)) rfl rfl ?_
      show mm_Wp X 12 mm_r76 4 [some (.ref 0), some (.int n)] [.int 1] _ _
      refine wp_s (i := .ifCond .ne 5) (n := 3) (pc' := 9) (st' := []) rfl rfl ?_
      refine wp_s (i := .aload_n 0) (n := 1) (pc' := 10) (st' := [.ref 0]) rfl rfl ?_
      refine wp_gf (idx := 38) (a := 0) (v := .ref 46) (pc' := 13) rfl rfl hb_0 rfl rfl ?_
      refine wp_s (i := .aload_n 0) (n := 1) (pc' := 14) (st' := [.ref 0, .ref 46]) rfl rfl ?_
      refine wp_gf (idx := 24) (a := 0) (v := .ref 25) (pc' := 17) rfl rfl hb_0 rfl rfl ?_
      refine wp_s (i := .aload_n 0) (n := 1) (pc' := 18) (st' := [.ref 0, .ref 25, .ref 46]) rfl rfl ?_
      refine wp_gf (idx := 31) (a := 0) (v := .ref 36) (pc' := 21) rfl rfl hb_0 rfl rfl ?_
      refine wp_s (i := .iload_n 1) (n := 1) (pc' := 22) (st' := [.int n, .ref 36, .ref 25, .ref 46]) rfl rfl ?_
      refine wp_c (i := .invokevirtual 197) (n := 3) (Dq := 11) (r' := mm_r12) (as := [.ref 46, .ref 25, .ref 36, .int n]) (rest := []) (ls' := [some (.ref 46), some (.ref 25), some (.ref 36), some (.int n), none]) rfl rfl rfl ?_
      refine wp_s (i := .aload_n 0) (n := 1) (pc' := 1) (st' := [.ref 46]) rfl rfl ?_
      refine wp_gf (idx := 22) (a := 46) (v := .ref 50) (pc' := 4) rfl rfl hb_46 rfl rfl ?_
      refine wp_s (i := .iconst 0) (n := 1) (pc' := 5) (st' := [.int 0, .ref 50]) rfl rfl ?_
      refine wp_s (i := .aload_n 0) (n := 1) (pc' := 6) (st' := [.ref 46, .int 0, .ref 50]) rfl rfl ?_
      refine wp_gf (idx := 31) (a := 46) (v := .ref 53) (pc' := 9) rfl rfl hb_46 rfl rfl ?_
      refine wp_s (i := .iconst 0) (n := 1) (pc' := 10) (st' := [.int 0, .ref 53, .int 0, .ref 50]) rfl rfl ?_
      refine wp_s (i := .bipush 8) (n := 2) (pc' := 12) (st' := [.int 8, .int 0, .ref 53, .int 0, .ref 50]) rfl rfl ?_
      refine wp_s (i := .invokestatic 59) (n := 3) (pc' := 15) (st' := []) (h' := hp_0.set 53 (.inl (0, .inl [0, 0, 0, 0, 0, 0, 0, 0]))) rfl rfl ?_
      refine wp_s (i := .aload_n 0) (n := 1) (pc' := 16) (st' := [.ref 46]) rfl rfl ?_
      refine wp_gf (idx := 22) (a := 46) (v := .ref 50) (pc' := 19) rfl rfl (mm_sn rfl hb_46) rfl rfl ?_
      refine wp_s (i := .iconst 0) (n := 1) (pc' := 20) (st' := [.int 0, .ref 50]) rfl rfl ?_
      refine wp_c (i := .invokestatic 34) (n := 3) (Dq := 10) (r' := mm_r194) (as := [.ref 50, .int 0]) (rest := []) (ls' := [some (.ref 50), some (.int 0), none, none]) rfl rfl rfl ?_
      refine wp_x 86 (v := none) (h' := hp_0.set 53 (.inl (0, .inl [0, 0, 0, 0, 0, 0, 0, 0]))) (mm_dec (by decide +kernel)) ?_
      show mm_Wp X 11 mm_r12 23 [some (.ref 46), some (.ref 25), some (.ref 36), some (.int n), none] [] _ _
      refine wp_s (i := .aload_n 0) (n := 1) (pc' := 24) (st' := [.ref 46]) rfl rfl ?_
      refine wp_gf (idx := 28) (a := 46) (v := .ref 52) (pc' := 27) rfl rfl (mm_sn rfl hb_46) rfl rfl ?_
      refine wp_s (i := .iconst 0) (n := 1) (pc' := 28) (st' := [.int 0, .ref 52]) rfl rfl ?_
      refine wp_c (i := .invokestatic 34) (n := 3) (Dq := 10) (r' := mm_r194) (as := [.ref 52, .int 0]) (rest := []) (ls' := [some (.ref 52), some (.int 0), none, none]) rfl rfl rfl ?_
      refine wp_x 59 (v := none) (h' := hp_0.set 53 (.inl (0, .inl [0, 0, 0, 0, 0, 0, 0, 0]))) (mm_dec (by decide +kernel)) ?_
      show mm_Wp X 11 mm_r12 31 [some (.ref 46), some (.ref 25), some (.ref 36), some (.int n), none] [] _ _
      refine wp_s (i := .aload_n 0) (n := 1) (pc' := 32) (st' := [.ref 46]) rfl rfl ?_
      refine wp_s (i := .aload_n 1) (n := 1) (pc' := 33) (st' := [.ref 25, .ref 46]) rfl rfl ?_
      refine wp_s (i := .iload_n 3) (n := 1) (pc' := 34) (st' := [.int n, .ref 25, .ref 46]) rfl rfl ?_
      refine wp_c (i := .invokevirtual 65) (n := 3) (Dq := 10) (r' := mm_r13) (as := [.ref 46, .ref 25, .int n]) (rest := []) (ls' := [some (.ref 46), some (.ref 25), some (.int n), none, none]) rfl rfl rfl ?_
      refine wp_s (i := .iconst 0) (n := 1) (pc' := 1) (st' := [.int 0]) rfl rfl ?_
      refine wp_s (i := .istore_n 3) (n := 1) (pc' := 2) (ls' := [some (.ref 46), some (.ref 25), some (.int n), some (.int 0), none]) (st' := []) rfl rfl ?_
      refine wp_s (i := .iload_n 3) (n := 1) (pc' := 3) (st' := [.int 0]) rfl rfl ?_
      refine wp_s (i := .aload_n 1) (n := 1) (pc' := 4) (st' := [.ref 25, .int 0]) rfl rfl ?_
      refine wp_gf (idx := 77) (a := 25) (v := .int 0) (pc' := 7) rfl rfl (mm_sn rfl hb_25) rfl rfl ?_
      refine wp_s (i := .if_icmp .ge 42) (n := 3) (pc' := 49) (st' := []) rfl rfl ?_
      refine wp_r (i := .return_) (n := 1) (v := none) rfl rfl ?_
      show mm_Wp X 11 mm_r12 37 [some (.ref 46), some (.ref 25), some (.ref 36), some (.int n), none] [] _ _
      refine wp_s (i := .aload_n 0) (n := 1) (pc' := 38) (st' := [.ref 46]) rfl rfl ?_
      refine wp_s (i := .aload_n 1) (n := 1) (pc' := 39) (st' := [.ref 25, .ref 46]) rfl rfl ?_
      refine wp_s (i := .aload_n 2) (n := 1) (pc' := 40) (st' := [.ref 36, .ref 25, .ref 46]) rfl rfl ?_
      refine wp_c (i := .invokevirtual 69) (n := 3) (Dq := 10) (r' := mm_r14) (as := [.ref 46, .ref 25, .ref 36]) (rest := []) (ls' := [some (.ref 46), some (.ref 25), some (.ref 36), none, none, none]) rfl rfl rfl ?_
      refine wp_x 12 (v := none) (h' := hp_0.set 53 (.inl (0, .inl [0, 0, 0, 0, 0, 0, 0, 0]))) (mm_dec (by decide +kernel)) ?_
      show mm_Wp X 11 mm_r12 43 [some (.ref 46), some (.ref 25), some (.ref 36), some (.int n), none] [] _ _
      refine wp_s (i := .aload_n 0) (n := 1) (pc' := 44) (st' := [.ref 46]) rfl rfl ?_
      refine wp_s (i := .aload_n 1) (n := 1) (pc' := 45) (st' := [.ref 25, .ref 46]) rfl rfl ?_
      refine wp_s (i := .aload_n 2) (n := 1) (pc' := 46) (st' := [.ref 36, .ref 25, .ref 46]) rfl rfl ?_
      refine wp_c (i := .invokevirtual 73) (n := 3) (Dq := 10) (r' := mm_r17) (as := [.ref 46, .ref 25, .ref 36]) (rest := []) (ls' := [some (.ref 46), some (.ref 25), some (.ref 36), none, none, none, none, none]) rfl rfl rfl ?_
      refine wp_x 15 (v := some (.int 0)) (h' := hp_0.set 53 (.inl (0, .inl [0, 0, 0, 0, 0, 0, 0, 0]))) (mm_dec (by decide +kernel)) ?_
      show mm_Wp X 11 mm_r12 49 [some (.ref 46), some (.ref 25), some (.ref 36), some (.int n), none] [.int 0] _ _
      refine wp_s (i := .istore 4) (n := 2) (pc' := 51) (ls' := [some (.ref 46), some (.ref 25), some (.ref 36), some (.int n), some (.int 0)]) (st' := []) rfl rfl ?_
      refine wp_s (i := .aload_n 0) (n := 1) (pc' := 52) (st' := [.ref 46]) rfl rfl ?_
      refine wp_s (i := .dup) (n := 1) (pc' := 53) (st' := [.ref 46, .ref 46]) rfl rfl ?_
      refine wp_gf (idx := 43) (a := 46) (v := .int 0) (pc' := 56) rfl rfl (mm_sn rfl hb_46) rfl rfl ?_
      refine wp_s (i := .iconst 1) (n := 1) (pc' := 57) (st' := [.int 1, .int 0, .ref 46]) rfl rfl ?_
      refine wp_s (i := .iadd) (n := 1) (pc' := 58) (st' := [.int 1, .ref 46]) rfl rfl ?_
      refine wp_pf (idx := 43) (a := 46) (fs' := [.ref 47, .ref 48, .ref 49, .ref 50, .ref 51, .int 1, .int 0, .int 0, .int 0, .int 0, .ref 52, .ref 53]) (pc' := 61) rfl rfl rfl (mm_sn rfl hb_46) rfl rfl rfl rfl rfl ?_
      refine wp_s (i := .iload 4) (n := 2) (pc' := 63) (st' := [.int 0]) rfl rfl ?_
      refine wp_r (i := .ireturn) (n := 1) (v := some (.int 0)) rfl rfl ?_
      show mm_Wp X 12 mm_r76 25 [some (.ref 0), some (.int n)] [.int 0] _ _
      refine wp_r (i := .ireturn) (n := 1) (v := some (.int 0)) rfl rfl ?_
      refine ⟨0, rfl, ⟨_, (mm_sn rfl (mm_sn rfl hb_114))⟩, ?_⟩
      show mm_Wp X 12 mm_r156 0 [some (.ref 114), some (.int n)] [] _ _
      refine wp_s (i := .iload_n 1) (n := 1) (pc' := 1) (st' := [.int n]) rfl rfl ?_
      refine wp_s (i := .i2l) (n := 1) (pc' := 2) (st' := [.long ((n).toInt64)]) rfl rfl ?_
      refine wp_s (i := .lconst 0) (n := 1) (pc' := 3) (st' := [.long 0, .long ((n).toInt64)]) rfl rfl ?_
      refine wp_s (i := .ldc2_w 223) (n := 3) (pc' := 6) (st' := [.long 9, .long 0, .long ((n).toInt64)]) rfl rfl ?_
      refine wp_c (i := .invokestatic 81) (n := 3) (Dq := 11) (r' := mm_r120) (as := [.long ((n).toInt64), .long 0, .long 9]) (rest := []) (ls' := [some (.long ((n).toInt64)), none, some (.long 0), none, some (.long 9), none]) rfl rfl rfl ?_
      refine wp_s (i := .lload_n 0) (n := 1) (pc' := 1) (st' := [.long ((n).toInt64)]) rfl rfl ?_
      refine wp_s (i := .lload_n 2) (n := 1) (pc' := 2) (st' := [.long 0, .long ((n).toInt64)]) rfl rfl ?_
      refine wp_s (i := .lcmp) (n := 1) (pc' := 3) (st' := [.int (lg_cmp ((n).toInt64) 0)]) rfl rfl ?_
      refine wp_if (t := 17) (st := []) rfl rfl (fun hc6 => ?_) (fun hc6 => ?_)
      · skip
        have q6 : (n).toInt < 0 := by have := lc_t_lt hc6; simpa using this
        exfalso; omega
      · skip
        have q6 : (n).toInt ≥ 0 := by have := lc_f_lt hc6; simpa using this
        show mm_Wp _ _ _ 6 _ _ _ _
        refine wp_s (i := .lload_n 0) (n := 1) (pc' := 7) (st' := [.long ((n).toInt64)]) rfl rfl ?_
        refine wp_s (i := .lload 4) (n := 2) (pc' := 9) (st' := [.long 9, .long ((n).toInt64)]) rfl rfl ?_
        refine wp_s (i := .lcmp) (n := 1) (pc' := 10) (st' := [.int (lg_cmp ((n).toInt64) 9)]) rfl rfl ?_
        refine wp_if (t := 17) (st := []) rfl rfl (fun hc7 => ?_) (fun hc7 => ?_)
        · skip
          have q7 : (n).toInt > 9 := by have := lc_t_gt hc7; simpa using this
          exfalso; omega
        · skip
          have q7 : (n).toInt ≤ 9 := by have := lc_f_gt hc7; simpa using this
          show mm_Wp _ _ _ 13 _ _ _ _
          refine wp_s (i := .iconst 1) (n := 1) (pc' := 14) (st' := [.int 1]) rfl rfl ?_
          refine wp_s (i := .goto 4) (n := 3) (pc' := 18) (st' := [.int 1]) rfl rfl ?_
          refine wp_r (i := .ireturn) (n := 1) (v := some (.int 1)) rfl rfl ?_
          show mm_Wp X 12 mm_r156 9 [some (.ref 114), some (.int n)] [.int 1] _ _
          refine wp_s (i := .ifCond .eq 12) (n := 3) (pc' := 12) (st' := []) rfl rfl ?_
          refine wp_s (i := .aload_n 0) (n := 1) (pc' := 13) (st' := [.ref 114]) rfl rfl ?_
          refine wp_s (i := .iconst 0) (n := 1) (pc' := 14) (st' := [.int 0, .ref 114]) rfl rfl ?_
          refine wp_s (i := .iload_n 1) (n := 1) (pc' := 15) (st' := [.int n, .int 0, .ref 114]) rfl rfl ?_
          refine wp_c (i := .invokevirtual 225) (n := 3) (Dq := 11) (r' := mm_r153) (as := [.ref 114, .int 0, .int n]) (rest := []) (ls' := [some (.ref 114), some (.int 0), some (.int n), none, none, none]) rfl rfl rfl ?_
          refine wp_s (i := .aload_n 0) (n := 1) (pc' := 1) (st' := [.ref 114]) rfl rfl ?_
          refine wp_s (i := .iload_n 1) (n := 1) (pc' := 2) (st' := [.int 0, .ref 114]) rfl rfl ?_
          refine wp_s (i := .iload_n 2) (n := 1) (pc' := 3) (st' := [.int n, .int 0, .ref 114]) rfl rfl ?_
          refine wp_c (i := .invokevirtual 216) (n := 3) (Dq := 10) (r' := mm_r151) (as := [.ref 114, .int 0, .int n]) (rest := []) (ls' := [some (.ref 114), some (.int 0), some (.int n), none, none, none, none]) rfl rfl rfl ?_
          refine wp_s (i := .iconst 0) (n := 1) (pc' := 1) (st' := [.int 0]) rfl rfl ?_
          refine wp_s (i := .istore_n 3) (n := 1) (pc' := 2) (ls' := [some (.ref 114), some (.int 0), some (.int n), some (.int 0), none, none, none]) (st' := []) rfl rfl ?_
          refine wp_s (i := .iload_n 3) (n := 1) (pc' := 3) (st' := [.int 0]) rfl rfl ?_
          refine wp_s (i := .bipush 8) (n := 2) (pc' := 5) (st' := [.int 8, .int 0]) rfl rfl ?_
          refine wp_s (i := .if_icmp .ge 25) (n := 3) (pc' := 8) (st' := []) rfl rfl ?_
          refine wp_s (i := .aload_n 0) (n := 1) (pc' := 9) (st' := [.ref 114]) rfl rfl ?_
          refine wp_gf (idx := 52) (a := 114) (v := .ref 129) (pc' := 12) rfl rfl (mm_sn rfl (mm_sn rfl hb_114)) rfl rfl ?_
          refine wp_s (i := .iload_n 3) (n := 1) (pc' := 13) (st' := [.int 0, .ref 129]) rfl rfl ?_
          refine wp_s (i := .iconst 5) (n := 1) (pc' := 14) (st' := [.int 5, .int 0, .ref 129]) rfl rfl ?_
          refine wp_s (i := .irem) (n := 1) (pc' := 15) (st' := [.int 0, .ref 129]) rfl rfl ?_
          refine wp_s (i := .iconst 0) (n := 1) (pc' := 16) (st' := [.int 0, .int 0, .ref 129]) rfl rfl ?_
          refine wp_is (l' := [0, 0, 0, 0, 0]) (pc' := 17) rfl (mm_sn rfl (mm_sn rfl hb_129)) rfl rfl (mm_sf (mm_sn rfl (mm_sn rfl hb_129))) rfl ?_
          refine wp_s (i := .aload_n 0) (n := 1) (pc' := 18) (st' := [.ref 114]) rfl rfl ?_
          refine wp_gf (idx := 55) (a := 114) (v := .ref 130) (pc' := 21) rfl rfl (mm_sn rfl (mm_sn rfl hb_114)) rfl rfl ?_
          refine wp_s (i := .iload_n 3) (n := 1) (pc' := 22) (st' := [.int 0, .ref 130]) rfl rfl ?_
          refine wp_s (i := .iconst 0) (n := 1) (pc' := 23) (st' := [.int 0, .int 0, .ref 130]) rfl rfl ?_
          refine wp_is (l' := [0, 0, 0, 0, 0, 0, 0, 0]) (pc' := 24) rfl (mm_sn rfl (mm_sn rfl hb_130)) rfl rfl (mm_sf (mm_sn rfl (mm_sn rfl hb_130))) rfl ?_
          refine wp_s (i := .iinc 3 1) (n := 3) (pc' := 27) (ls' := [some (.ref 114), some (.int 0), some (.int n), some (.int 1), none, none, none]) (st' := []) rfl rfl ?_
          refine wp_s (i := .goto (-25)) (n := 3) (pc' := 2) (st' := []) rfl rfl ?_
          refine wp_s (i := .iload_n 3) (n := 1) (pc' := 3) (st' := [.int 1]) rfl rfl ?_
          refine wp_s (i := .bipush 8) (n := 2) (pc' := 5) (st' := [.int 8, .int 1]) rfl rfl ?_
          refine wp_s (i := .if_icmp .ge 25) (n := 3) (pc' := 8) (st' := []) rfl rfl ?_
          refine wp_s (i := .aload_n 0) (n := 1) (pc' := 9) (st' := [.ref 114]) rfl rfl ?_
          refine wp_gf (idx := 52) (a := 114) (v := .ref 129) (pc' := 12) rfl rfl (mm_sn rfl (mm_sn rfl hb_114)) rfl rfl ?_
          refine wp_s (i := .iload_n 3) (n := 1) (pc' := 13) (st' := [.int 1, .ref 129]) rfl rfl ?_
          refine wp_s (i := .iconst 5) (n := 1) (pc' := 14) (st' := [.int 5, .int 1, .ref 129]) rfl rfl ?_
          refine wp_s (i := .irem) (n := 1) (pc' := 15) (st' := [.int 1, .ref 129]) rfl rfl ?_
          refine wp_s (i := .iconst 0) (n := 1) (pc' := 16) (st' := [.int 0, .int 1, .ref 129]) rfl rfl ?_
          refine wp_is (l' := [0, 0, 0, 0, 0]) (pc' := 17) rfl (mm_sn rfl (mm_sn rfl hb_129)) rfl rfl (mm_sf (mm_sn rfl (mm_sn rfl hb_129))) rfl ?_
          refine wp_s (i := .aload_n 0) (n := 1) (pc' := 18) (st' := [.ref 114]) rfl rfl ?_
          refine wp_gf (idx := 55) (a := 114) (v := .ref 130) (pc' := 21) rfl rfl (mm_sn rfl (mm_sn rfl hb_114)) rfl rfl ?_
          refine wp_s (i := .iload_n 3) (n := 1) (pc' := 22) (st' := [.int 1, .ref 130]) rfl rfl ?_
          refine wp_s (i := .iconst 0) (n := 1) (pc' := 23) (st' := [.int 0, .int 1, .ref 130]) rfl rfl ?_
          refine wp_is (l' := [0, 0, 0, 0, 0, 0, 0, 0]) (pc' := 24) rfl (mm_sn rfl (mm_sn rfl hb_130)) rfl rfl (mm_sf (mm_sn rfl (mm_sn rfl hb_130))) rfl ?_
          refine wp_s (i := .iinc 3 1) (n := 3) (pc' := 27) (ls' := [some (.ref 114), some (.int 0), some (.int n), some (.int 2), none, none, none]) (st' := []) rfl rfl ?_
          refine wp_s (i := .goto (-25)) (n := 3) (pc' := 2) (st' := []) rfl rfl ?_
          refine wp_s (i := .iload_n 3) (n := 1) (pc' := 3) (st' := [.int 2]) rfl rfl ?_
          refine wp_s (i := .bipush 8) (n := 2) (pc' := 5) (st' := [.int 8, .int 2]) rfl rfl ?_
          refine wp_s (i := .if_icmp .ge 25) (n := 3) (pc' := 8) (st' := []) rfl rfl ?_
          refine wp_s (i := .aload_n 0) (n := 1) (pc' := 9) (st' := [.ref 114]) rfl rfl ?_
          refine wp_gf (idx := 52) (a := 114) (v := .ref 129) (pc' := 12) rfl rfl (mm_sn rfl (mm_sn rfl hb_114)) rfl rfl ?_
          refine wp_s (i := .iload_n 3) (n := 1) (pc' := 13) (st' := [.int 2, .ref 129]) rfl rfl ?_
          refine wp_s (i := .iconst 5) (n := 1) (pc' := 14) (st' := [.int 5, .int 2, .ref 129]) rfl rfl ?_
          refine wp_s (i := .irem) (n := 1) (pc' := 15) (st' := [.int 2, .ref 129]) rfl rfl ?_
          refine wp_s (i := .iconst 0) (n := 1) (pc' := 16) (st' := [.int 0, .int 2, .ref 129]) rfl rfl ?_
          refine wp_is (l' := [0, 0, 0, 0, 0]) (pc' := 17) rfl (mm_sn rfl (mm_sn rfl hb_129)) rfl rfl (mm_sf (mm_sn rfl (mm_sn rfl hb_129))) rfl ?_
          refine wp_s (i := .aload_n 0) (n := 1) (pc' := 18) (st' := [.ref 114]) rfl rfl ?_
          refine wp_gf (idx := 55) (a := 114) (v := .ref 130) (pc' := 21) rfl rfl (mm_sn rfl (mm_sn rfl hb_114)) rfl rfl ?_
          refine wp_s (i := .iload_n 3) (n := 1) (pc' := 22) (st' := [.int 2, .ref 130]) rfl rfl ?_
          refine wp_s (i := .iconst 0) (n := 1) (pc' := 23) (st' := [.int 0, .int 2, .ref 130]) rfl rfl ?_
          refine wp_is (l' := [0, 0, 0, 0, 0, 0, 0, 0]) (pc' := 24) rfl (mm_sn rfl (mm_sn rfl hb_130)) rfl rfl (mm_sf (mm_sn rfl (mm_sn rfl hb_130))) rfl ?_
          refine wp_s (i := .iinc 3 1) (n := 3) (pc' := 27) (ls' := [some (.ref 114), some (.int 0), some (.int n), some (.int 3), none, none, none]) (st' := []) rfl rfl ?_
          refine wp_s (i := .goto (-25)) (n := 3) (pc' := 2) (st' := []) rfl rfl ?_
          refine wp_s (i := .iload_n 3) (n := 1) (pc' := 3) (st' := [.int 3]) rfl rfl ?_
          refine wp_s (i := .bipush 8) (n := 2) (pc' := 5) (st' := [.int 8, .int 3]) rfl rfl ?_
          refine wp_s (i := .if_icmp .ge 25) (n := 3) (pc' := 8) (st' := []) rfl rfl ?_
          refine wp_s (i := .aload_n 0) (n := 1) (pc' := 9) (st' := [.ref 114]) rfl rfl ?_
          refine wp_gf (idx := 52) (a := 114) (v := .ref 129) (pc' := 12) rfl rfl (mm_sn rfl (mm_sn rfl hb_114)) rfl rfl ?_
          refine wp_s (i := .iload_n 3) (n := 1) (pc' := 13) (st' := [.int 3, .ref 129]) rfl rfl ?_
          refine wp_s (i := .iconst 5) (n := 1) (pc' := 14) (st' := [.int 5, .int 3, .ref 129]) rfl rfl ?_
          refine wp_s (i := .irem) (n := 1) (pc' := 15) (st' := [.int 3, .ref 129]) rfl rfl ?_
          refine wp_s (i := .iconst 0) (n := 1) (pc' := 16) (st' := [.int 0, .int 3, .ref 129]) rfl rfl ?_
          refine wp_is (l' := [0, 0, 0, 0, 0]) (pc' := 17) rfl (mm_sn rfl (mm_sn rfl hb_129)) rfl rfl (mm_sf (mm_sn rfl (mm_sn rfl hb_129))) rfl ?_
          refine wp_s (i := .aload_n 0) (n := 1) (pc' := 18) (st' := [.ref 114]) rfl rfl ?_
          refine wp_gf (idx := 55) (a := 114) (v := .ref 130) (pc' := 21) rfl rfl (mm_sn rfl (mm_sn rfl hb_114)) rfl rfl ?_
          refine wp_s (i := .iload_n 3) (n := 1) (pc' := 22) (st' := [.int 3, .ref 130]) rfl rfl ?_
          refine wp_s (i := .iconst 0) (n := 1) (pc' := 23) (st' := [.int 0, .int 3, .ref 130]) rfl rfl ?_
          refine wp_is (l' := [0, 0, 0, 0, 0, 0, 0, 0]) (pc' := 24) rfl (mm_sn rfl (mm_sn rfl hb_130)) rfl rfl (mm_sf (mm_sn rfl (mm_sn rfl hb_130))) rfl ?_
          refine wp_s (i := .iinc 3 1) (n := 3) (pc' := 27) (ls' := [some (.ref 114), some (.int 0), some (.int n), some (.int 4), none, none, none]) (st' := []) rfl rfl ?_
          refine wp_s (i := .goto (-25)) (n := 3) (pc' := 2) (st' := []) rfl rfl ?_
          refine wp_s (i := .iload_n 3) (n := 1) (pc' := 3) (st' := [.int 4]) rfl rfl ?_
          refine wp_s (i := .bipush 8) (n := 2) (pc' := 5) (st' := [.int 8, .int 4]) rfl rfl ?_
          refine wp_s (i := .if_icmp .ge 25) (n := 3) (pc' := 8) (st' := []) rfl rfl ?_
          refine wp_s (i := .aload_n 0) (n := 1) (pc' := 9) (st' := [.ref 114]) rfl rfl ?_
          refine wp_gf (idx := 52) (a := 114) (v := .ref 129) (pc' := 12) rfl rfl (mm_sn rfl (mm_sn rfl hb_114)) rfl rfl ?_
          refine wp_s (i := .iload_n 3) (n := 1) (pc' := 13) (st' := [.int 4, .ref 129]) rfl rfl ?_
          refine wp_s (i := .iconst 5) (n := 1) (pc' := 14) (st' := [.int 5, .int 4, .ref 129]) rfl rfl ?_
          refine wp_s (i := .irem) (n := 1) (pc' := 15) (st' := [.int 4, .ref 129]) rfl rfl ?_
          refine wp_s (i := .iconst 0) (n := 1) (pc' := 16) (st' := [.int 0, .int 4, .ref 129]) rfl rfl ?_
          refine wp_is (l' := [0, 0, 0, 0, 0]) (pc' := 17) rfl (mm_sn rfl (mm_sn rfl hb_129)) rfl rfl (mm_sf (mm_sn rfl (mm_sn rfl hb_129))) rfl ?_
          refine wp_s (i := .aload_n 0) (n := 1) (pc' := 18) (st' := [.ref 114]) rfl rfl ?_
          refine wp_gf (idx := 55) (a := 114) (v := .ref 130) (pc' := 21) rfl rfl (mm_sn rfl (mm_sn rfl hb_114)) rfl rfl ?_
          refine wp_s (i := .iload_n 3) (n := 1) (pc' := 22) (st' := [.int 4, .ref 130]) rfl rfl ?_
          refine wp_s (i := .iconst 0) (n := 1) (pc' := 23) (st' := [.int 0, .int 4, .ref 130]) rfl rfl ?_
          refine wp_is (l' := [0, 0, 0, 0, 0, 0, 0, 0]) (pc' := 24) rfl (mm_sn rfl (mm_sn rfl hb_130)) rfl rfl (mm_sf (mm_sn rfl (mm_sn rfl hb_130))) rfl ?_
          refine wp_s (i := .iinc 3 1) (n := 3) (pc' := 27) (ls' := [some (.ref 114), some (.int 0), some (.int n), some (.int 5), none, none, none]) (st' := []) rfl rfl ?_
          refine wp_s (i := .goto (-25)) (n := 3) (pc' := 2) (st' := []) rfl rfl ?_
          refine wp_s (i := .iload_n 3) (n := 1) (pc' := 3) (st' := [.int 5]) rfl rfl ?_
          refine wp_s (i := .bipush 8) (n := 2) (pc' := 5) (st' := [.int 8, .int 5]) rfl rfl ?_
          refine wp_s (i := .if_icmp .ge 25) (n := 3) (pc' := 8) (st' := []) rfl rfl ?_
          refine wp_s (i := .aload_n 0) (n := 1) (pc' := 9) (st' := [.ref 114]) rfl rfl ?_
          refine wp_gf (idx := 52) (a := 114) (v := .ref 129) (pc' := 12) rfl rfl (mm_sn rfl (mm_sn rfl hb_114)) rfl rfl ?_
          refine wp_s (i := .iload_n 3) (n := 1) (pc' := 13) (st' := [.int 5, .ref 129]) rfl rfl ?_
          refine wp_s (i := .iconst 5) (n := 1) (pc' := 14) (st' := [.int 5, .int 5, .ref 129]) rfl rfl ?_
          refine wp_s (i := .irem) (n := 1) (pc' := 15) (st' := [.int 0, .ref 129]) rfl rfl ?_
          refine wp_s (i := .iconst 0) (n := 1) (pc' := 16) (st' := [.int 0, .int 0, .ref 129]) rfl rfl ?_
          refine wp_is (l' := [0, 0, 0, 0, 0]) (pc' := 17) rfl (mm_sn rfl (mm_sn rfl hb_129)) rfl rfl (mm_sf (mm_sn rfl (mm_sn rfl hb_129))) rfl ?_
          refine wp_s (i := .aload_n 0) (n := 1) (pc' := 18) (st' := [.ref 114]) rfl rfl ?_
          refine wp_gf (idx := 55) (a := 114) (v := .ref 130) (pc' := 21) rfl rfl (mm_sn rfl (mm_sn rfl hb_114)) rfl rfl ?_
          refine wp_s (i := .iload_n 3) (n := 1) (pc' := 22) (st' := [.int 5, .ref 130]) rfl rfl ?_
          refine wp_s (i := .iconst 0) (n := 1) (pc' := 23) (st' := [.int 0, .int 5, .ref 130]) rfl rfl ?_
          refine wp_is (l' := [0, 0, 0, 0, 0, 0, 0, 0]) (pc' := 24) rfl (mm_sn rfl (mm_sn rfl hb_130)) rfl rfl (mm_sf (mm_sn rfl (mm_sn rfl hb_130))) rfl ?_
          refine wp_s (i := .iinc 3 1) (n := 3) (pc' := 27) (ls' := [some (.ref 114), some (.int 0), some (.int n), some (.int 6), none, none, none]) (st' := []) rfl rfl ?_
          refine wp_s (i := .goto (-25)) (n := 3) (pc' := 2) (st' := []) rfl rfl ?_
          refine wp_s (i := .iload_n 3) (n := 1) (pc' := 3) (st' := [.int 6]) rfl rfl ?_
          refine wp_s (i := .bipush 8) (n := 2) (pc' := 5) (st' := [.int 8, .int 6]) rfl rfl ?_
          refine wp_s (i := .if_icmp .ge 25) (n := 3) (pc' := 8) (st' := []) rfl rfl ?_
          refine wp_s (i := .aload_n 0) (n := 1) (pc' := 9) (st' := [.ref 114]) rfl rfl ?_
          refine wp_gf (idx := 52) (a := 114) (v := .ref 129) (pc' := 12) rfl rfl (mm_sn rfl (mm_sn rfl hb_114)) rfl rfl ?_
          refine wp_s (i := .iload_n 3) (n := 1) (pc' := 13) (st' := [.int 6, .ref 129]) rfl rfl ?_
          refine wp_s (i := .iconst 5) (n := 1) (pc' := 14) (st' := [.int 5, .int 6, .ref 129]) rfl rfl ?_
          refine wp_s (i := .irem) (n := 1) (pc' := 15) (st' := [.int 1, .ref 129]) rfl rfl ?_
          refine wp_s (i := .iconst 0) (n := 1) (pc' := 16) (st' := [.int 0, .int 1, .ref 129]) rfl rfl ?_
          refine wp_is (l' := [0, 0, 0, 0, 0]) (pc' := 17) rfl (mm_sn rfl (mm_sn rfl hb_129)) rfl rfl (mm_sf (mm_sn rfl (mm_sn rfl hb_129))) rfl ?_
          refine wp_s (i := .aload_n 0) (n := 1) (pc' := 18) (st' := [.ref 114]) rfl rfl ?_
          refine wp_gf (idx := 55) (a := 114) (v := .ref 130) (pc' := 21) rfl rfl (mm_sn rfl (mm_sn rfl hb_114)) rfl rfl ?_
          refine wp_s (i := .iload_n 3) (n := 1) (pc' := 22) (st' := [.int 6, .ref 130]) rfl rfl ?_
          refine wp_s (i := .iconst 0) (n := 1) (pc' := 23) (st' := [.int 0, .int 6, .ref 130]) rfl rfl ?_
          refine wp_is (l' := [0, 0, 0, 0, 0, 0, 0, 0]) (pc' := 24) rfl (mm_sn rfl (mm_sn rfl hb_130)) rfl rfl (mm_sf (mm_sn rfl (mm_sn rfl hb_130))) rfl ?_
          refine wp_s (i := .iinc 3 1) (n := 3) (pc' := 27) (ls' := [some (.ref 114), some (.int 0), some (.int n), some (.int 7), none, none, none]) (st' := []) rfl rfl ?_
          refine wp_s (i := .goto (-25)) (n := 3) (pc' := 2) (st' := []) rfl rfl ?_
          refine wp_s (i := .iload_n 3) (n := 1) (pc' := 3) (st' := [.int 7]) rfl rfl ?_
          refine wp_s (i := .bipush 8) (n := 2) (pc' := 5) (st' := [.int 8, .int 7]) rfl rfl ?_
          refine wp_s (i := .if_icmp .ge 25) (n := 3) (pc' := 8) (st' := []) rfl rfl ?_
          refine wp_s (i := .aload_n 0) (n := 1) (pc' := 9) (st' := [.ref 114]) rfl rfl ?_
          refine wp_gf (idx := 52) (a := 114) (v := .ref 129) (pc' := 12) rfl rfl (mm_sn rfl (mm_sn rfl hb_114)) rfl rfl ?_
          refine wp_s (i := .iload_n 3) (n := 1) (pc' := 13) (st' := [.int 7, .ref 129]) rfl rfl ?_
          refine wp_s (i := .iconst 5) (n := 1) (pc' := 14) (st' := [.int 5, .int 7, .ref 129]) rfl rfl ?_
          refine wp_s (i := .irem) (n := 1) (pc' := 15) (st' := [.int 2, .ref 129]) rfl rfl ?_
          refine wp_s (i := .iconst 0) (n := 1) (pc' := 16) (st' := [.int 0, .int 2, .ref 129]) rfl rfl ?_
          refine wp_is (l' := [0, 0, 0, 0, 0]) (pc' := 17) rfl (mm_sn rfl (mm_sn rfl hb_129)) rfl rfl (mm_sf (mm_sn rfl (mm_sn rfl hb_129))) rfl ?_
          refine wp_s (i := .aload_n 0) (n := 1) (pc' := 18) (st' := [.ref 114]) rfl rfl ?_
          refine wp_gf (idx := 55) (a := 114) (v := .ref 130) (pc' := 21) rfl rfl (mm_sn rfl (mm_sn rfl hb_114)) rfl rfl ?_
          refine wp_s (i := .iload_n 3) (n := 1) (pc' := 22) (st' := [.int 7, .ref 130]) rfl rfl ?_
          refine wp_s (i := .iconst 0) (n := 1) (pc' := 23) (st' := [.int 0, .int 7, .ref 130]) rfl rfl ?_
          refine wp_is (l' := [0, 0, 0, 0, 0, 0, 0, 0]) (pc' := 24) rfl (mm_sn rfl (mm_sn rfl hb_130)) rfl rfl (mm_sf (mm_sn rfl (mm_sn rfl hb_130))) rfl ?_
          refine wp_s (i := .iinc 3 1) (n := 3) (pc' := 27) (ls' := [some (.ref 114), some (.int 0), some (.int n), some (.int 8), none, none, none]) (st' := []) rfl rfl ?_
          refine wp_s (i := .goto (-25)) (n := 3) (pc' := 2) (st' := []) rfl rfl ?_
          refine wp_s (i := .iload_n 3) (n := 1) (pc' := 3) (st' := [.int 8]) rfl rfl ?_
          refine wp_s (i := .bipush 8) (n := 2) (pc' := 5) (st' := [.int 8, .int 8]) rfl rfl ?_
          refine wp_s (i := .if_icmp .ge 25) (n := 3) (pc' := 30) (st' := []) rfl rfl ?_
          refine wp_s (i := .iconst 0) (n := 1) (pc' := 31) (st' := [.int 0]) rfl rfl ?_
          refine wp_s (i := .istore_n 3) (n := 1) (pc' := 32) (ls' := [some (.ref 114), some (.int 0), some (.int n), some (.int 0), none, none, none]) (st' := []) rfl rfl ?_
          refine wp_s (i := .iload_n 3) (n := 1) (pc' := 33) (st' := [.int 0]) rfl rfl ?_
          refine wp_s (i := .aload_n 0) (n := 1) (pc' := 34) (st' := [.ref 114, .int 0]) rfl rfl ?_
          refine wp_gf (idx := 164) (a := 114) (v := .int 0) (pc' := 37) rfl rfl (mm_sn rfl (mm_sn rfl hb_114)) rfl rfl ?_
          refine wp_s (i := .if_icmp .ge 60) (n := 3) (pc' := 97) (st' := []) rfl rfl ?_
          refine wp_s (i := .iconst 0) (n := 1) (pc' := 98) (st' := [.int 0]) rfl rfl ?_
          refine wp_s (i := .istore_n 3) (n := 1) (pc' := 99) (ls' := [some (.ref 114), some (.int 0), some (.int n), some (.int 0), none, none, none]) (st' := []) rfl rfl ?_
          refine wp_s (i := .iload_n 3) (n := 1) (pc' := 100) (st' := [.int 0]) rfl rfl ?_
          refine wp_s (i := .aload_n 0) (n := 1) (pc' := 101) (st' := [.ref 114, .int 0]) rfl rfl ?_
          refine wp_gf (idx := 167) (a := 114) (v := .int 0) (pc' := 104) rfl rfl (mm_sn rfl (mm_sn rfl hb_114)) rfl rfl ?_
          refine wp_s (i := .if_icmp .ge 139) (n := 3) (pc' := 243) (st' := []) rfl rfl ?_
          refine wp_r (i := .return_) (n := 1) (v := none) rfl rfl ?_
          show mm_Wp X 11 mm_r153 6 [some (.ref 114), some (.int 0), some (.int n), none, none, none] [] _ _
          refine wp_s (i := .iconst 0) (n := 1) (pc' := 7) (st' := [.int 0]) rfl rfl ?_
          refine wp_s (i := .istore_n 3) (n := 1) (pc' := 8) (ls' := [some (.ref 114), some (.int 0), some (.int n), some (.int 0), none, none]) (st' := []) rfl rfl ?_
          refine wp_s (i := .iconst 0) (n := 1) (pc' := 9) (st' := [.int 0]) rfl rfl ?_
          refine wp_s (i := .istore 4) (n := 2) (pc' := 11) (ls' := [some (.ref 114), some (.int 0), some (.int n), some (.int 0), some (.int 0), none]) (st' := []) rfl rfl ?_
          refine wp_s (i := .iload 4) (n := 2) (pc' := 13) (st' := [.int 0]) rfl rfl ?_
          refine wp_s (i := .aload_n 0) (n := 1) (pc' := 14) (st' := [.ref 114, .int 0]) rfl rfl ?_
          refine wp_gf (idx := 170) (a := 114) (v := .int 0) (pc' := 17) rfl rfl (mm_sn rfl (mm_sn rfl hb_114)) rfl rfl ?_
          refine wp_s (i := .if_icmp .ge 44) (n := 3) (pc' := 61) (st' := []) rfl rfl ?_
          refine wp_s (i := .iconst 0) (n := 1) (pc' := 62) (st' := [.int 0]) rfl rfl ?_
          refine wp_s (i := .istore 4) (n := 2) (pc' := 64) (ls' := [some (.ref 114), some (.int 0), some (.int n), some (.int 0), some (.int 0), none]) (st' := []) rfl rfl ?_
          refine wp_s (i := .iload 4) (n := 2) (pc' := 66) (st' := [.int 0]) rfl rfl ?_
          refine wp_s (i := .aload_n 0) (n := 1) (pc' := 67) (st' := [.ref 114, .int 0]) rfl rfl ?_
          refine wp_gf (idx := 170) (a := 114) (v := .int 0) (pc' := 70) rfl rfl (mm_sn rfl (mm_sn rfl hb_114)) rfl rfl ?_
          refine wp_s (i := .if_icmp .ge 155) (n := 3) (pc' := 225) (st' := []) rfl rfl ?_
          refine wp_s (i := .iconst 0) (n := 1) (pc' := 226) (st' := [.int 0]) rfl rfl ?_
          refine wp_s (i := .istore 4) (n := 2) (pc' := 228) (ls' := [some (.ref 114), some (.int 0), some (.int n), some (.int 0), some (.int 0), none]) (st' := []) rfl rfl ?_
          refine wp_s (i := .iload 4) (n := 2) (pc' := 230) (st' := [.int 0]) rfl rfl ?_
          refine wp_s (i := .aload_n 0) (n := 1) (pc' := 231) (st' := [.ref 114, .int 0]) rfl rfl ?_
          refine wp_gf (idx := 170) (a := 114) (v := .int 0) (pc' := 234) rfl rfl (mm_sn rfl (mm_sn rfl hb_114)) rfl rfl ?_
          refine wp_s (i := .if_icmp .ge 48) (n := 3) (pc' := 282) (st' := []) rfl rfl ?_
          refine wp_s (i := .aload_n 0) (n := 1) (pc' := 283) (st' := [.ref 114]) rfl rfl ?_
          refine wp_gf (idx := 7) (a := 114) (v := .ref 115) (pc' := 286) rfl rfl (mm_sn rfl (mm_sn rfl hb_114)) rfl rfl ?_
          refine wp_s (i := .iload_n 1) (n := 1) (pc' := 287) (st' := [.int 0, .ref 115]) rfl rfl ?_
          refine wp_s (i := .sipush 134) (n := 3) (pc' := 290) (st' := [.int 134, .int 0, .ref 115]) rfl rfl ?_
          refine wp_s (i := .iadd) (n := 1) (pc' := 291) (st' := [.int 134, .ref 115]) rfl rfl ?_
          refine wp_s (i := .dup2) (n := 1) (pc' := 292) (st' := [.int 134, .ref 115, .int 134, .ref 115]) rfl rfl ?_
          refine wp_ia (x := 0) (pc' := 293) rfl (mm_sn rfl (mm_sn rfl hb_115)) rfl rfl rfl ?_
          refine wp_s (i := .iconst 1) (n := 1) (pc' := 294) (st' := [.int 1, .int 0, .int 134, .ref 115]) rfl rfl ?_
          refine wp_s (i := .iadd) (n := 1) (pc' := 295) (st' := [.int 1, .int 134, .ref 115]) rfl rfl ?_
          refine wp_is (l' := ((List.replicate 700 0).set 134 1)) (pc' := 296) rfl (mm_sn rfl (mm_sn rfl hb_115)) rfl rfl rfl rfl ?_
          refine wp_s (i := .iload_n 3) (n := 1) (pc' := 297) (st' := [.int 0]) rfl rfl ?_
          refine wp_r (i := .ireturn) (n := 1) (v := some (.int 0)) rfl rfl ?_
          show mm_Wp X 12 mm_r156 18 [some (.ref 114), some (.int n)] [.int 0] _ _
          refine wp_s (i := .goto 4) (n := 3) (pc' := 22) (st' := [.int 0]) rfl rfl ?_
          refine wp_r (i := .ireturn) (n := 1) (v := some (.int 0)) rfl rfl ?_
          exact ⟨rfl, (pk_okS (pk_okS (pk_okS pk_ok0 hb_53 rfl) (mm_sn rfl hb_46) rfl) (mm_sn rfl (mm_sn rfl hb_115)) rfl)⟩
set_option maxRecDepth 20000 in
set_option maxHeartbeats 4000000 in
theorem pk_12 (X : Option (List Int32))  : mm_Wp X 12 mm_r77 0 [some (.ref 0), none] [] hp_0 (fun v1 h1 => ∃ x : Int32, v1 = some (.int x) ∧ (∃ fs, h1[114]? = some (.inr (10, fs))) ∧ mm_Wp X 12 mm_r157 0 [some (.ref 114), none] [] h1 (fun v2 h2 => v2 = some (.int x) ∧ pk_ok h2)) := by
  refine wp_x 455 (v := some (.int 0)) (h' := hp_0) (mm_dec (by decide +kernel)) ?_
  refine ⟨0, rfl, ⟨_, hb_114⟩, ?_⟩
  show mm_Wp X 12 mm_r157 0 [some (.ref 114), none] [] _ _
  refine wp_x 669 (v := some (.int 0)) (h' := hp_0) (mm_dec (by decide +kernel)) ?_
  exact ⟨rfl, pk_ok0⟩
set_option maxRecDepth 20000 in
set_option maxHeartbeats 4000000 in
theorem pk_13_0 (X : Option (List Int32))  : mm_Wp X 12 mm_r78 0 [some (.ref 0), some (.int 0)] [] hp_0 (fun v1 h1 => ∃ x : Int32, v1 = some (.int x) ∧ (∃ fs, h1[114]? = some (.inr (10, fs))) ∧ mm_Wp X 12 mm_r158 0 [some (.ref 114), some (.int 0)] [] h1 (fun v2 h2 => v2 = some (.int x) ∧ pk_ok h2)) := by
  refine wp_x 11 (v := some (.int 0)) (h' := hp_0) (mm_dec (by decide +kernel)) ?_
  refine ⟨0, rfl, ⟨_, hb_114⟩, ?_⟩
  show mm_Wp X 12 mm_r158 0 [some (.ref 114), some (.int 0)] [] _ _
  refine wp_x 12 (v := some (.int 0)) (h' := hp_0) (mm_dec (by decide +kernel)) ?_
  exact ⟨rfl, pk_ok0⟩
set_option maxRecDepth 20000 in
set_option maxHeartbeats 4000000 in
theorem pk_13_1 (X : Option (List Int32))  : mm_Wp X 12 mm_r78 0 [some (.ref 0), some (.int 1)] [] hp_0 (fun v1 h1 => ∃ x : Int32, v1 = some (.int x) ∧ (∃ fs, h1[114]? = some (.inr (10, fs))) ∧ mm_Wp X 12 mm_r158 0 [some (.ref 114), some (.int 1)] [] h1 (fun v2 h2 => v2 = some (.int x) ∧ pk_ok h2)) := by
  refine wp_x 11 (v := some (.int 0)) (h' := hp_0) (mm_dec (by decide +kernel)) ?_
  refine ⟨0, rfl, ⟨_, hb_114⟩, ?_⟩
  show mm_Wp X 12 mm_r158 0 [some (.ref 114), some (.int 1)] [] _ _
  refine wp_x 12 (v := some (.int 0)) (h' := hp_0) (mm_dec (by decide +kernel)) ?_
  exact ⟨rfl, pk_ok0⟩
set_option maxRecDepth 20000 in
set_option maxHeartbeats 4000000 in
theorem pk_13_2 (X : Option (List Int32))  : mm_Wp X 12 mm_r78 0 [some (.ref 0), some (.int 2)] [] hp_0 (fun v1 h1 => ∃ x : Int32, v1 = some (.int x) ∧ (∃ fs, h1[114]? = some (.inr (10, fs))) ∧ mm_Wp X 12 mm_r158 0 [some (.ref 114), some (.int 2)] [] h1 (fun v2 h2 => v2 = some (.int x) ∧ pk_ok h2)) := by
  refine wp_x 11 (v := some (.int 0)) (h' := hp_0) (mm_dec (by decide +kernel)) ?_
  refine ⟨0, rfl, ⟨_, hb_114⟩, ?_⟩
  show mm_Wp X 12 mm_r158 0 [some (.ref 114), some (.int 2)] [] _ _
  refine wp_x 12 (v := some (.int 0)) (h' := hp_0) (mm_dec (by decide +kernel)) ?_
  exact ⟨rfl, pk_ok0⟩
set_option maxRecDepth 20000 in
set_option maxHeartbeats 4000000 in
theorem pk_13_3 (X : Option (List Int32))  : mm_Wp X 12 mm_r78 0 [some (.ref 0), some (.int 3)] [] hp_0 (fun v1 h1 => ∃ x : Int32, v1 = some (.int x) ∧ (∃ fs, h1[114]? = some (.inr (10, fs))) ∧ mm_Wp X 12 mm_r158 0 [some (.ref 114), some (.int 3)] [] h1 (fun v2 h2 => v2 = some (.int x) ∧ pk_ok h2)) := by
  refine wp_x 130 (v := some (.int 0)) (h' := hp_0) (mm_dec (by decide +kernel)) ?_
  refine ⟨0, rfl, ⟨_, hb_114⟩, ?_⟩
  show mm_Wp X 12 mm_r158 0 [some (.ref 114), some (.int 3)] [] _ _
  refine wp_x 149 (v := some (.int 0)) (h' := hp_0) (mm_dec (by decide +kernel)) ?_
  exact ⟨rfl, pk_ok0⟩
set_option maxRecDepth 20000 in
set_option maxHeartbeats 4000000 in
theorem pk_13_4 (X : Option (List Int32))  : mm_Wp X 12 mm_r78 0 [some (.ref 0), some (.int 4)] [] hp_0 (fun v1 h1 => ∃ x : Int32, v1 = some (.int x) ∧ (∃ fs, h1[114]? = some (.inr (10, fs))) ∧ mm_Wp X 12 mm_r158 0 [some (.ref 114), some (.int 4)] [] h1 (fun v2 h2 => v2 = some (.int x) ∧ pk_ok h2)) := by
  refine wp_x 130 (v := some (.int 0)) (h' := hp_0) (mm_dec (by decide +kernel)) ?_
  refine ⟨0, rfl, ⟨_, hb_114⟩, ?_⟩
  show mm_Wp X 12 mm_r158 0 [some (.ref 114), some (.int 4)] [] _ _
  refine wp_x 149 (v := some (.int 0)) (h' := hp_0) (mm_dec (by decide +kernel)) ?_
  exact ⟨rfl, pk_ok0⟩
set_option maxRecDepth 20000 in
set_option maxHeartbeats 4000000 in
theorem pk_13_5 (X : Option (List Int32))  : mm_Wp X 12 mm_r78 0 [some (.ref 0), some (.int 5)] [] hp_0 (fun v1 h1 => ∃ x : Int32, v1 = some (.int x) ∧ (∃ fs, h1[114]? = some (.inr (10, fs))) ∧ mm_Wp X 12 mm_r158 0 [some (.ref 114), some (.int 5)] [] h1 (fun v2 h2 => v2 = some (.int x) ∧ pk_ok h2)) := by
  refine wp_x 11 (v := some (.int 0)) (h' := hp_0) (mm_dec (by decide +kernel)) ?_
  refine ⟨0, rfl, ⟨_, hb_114⟩, ?_⟩
  show mm_Wp X 12 mm_r158 0 [some (.ref 114), some (.int 5)] [] _ _
  refine wp_x 12 (v := some (.int 0)) (h' := hp_0) (mm_dec (by decide +kernel)) ?_
  exact ⟨rfl, pk_ok0⟩
set_option maxRecDepth 20000 in
set_option maxHeartbeats 4000000 in
theorem pk_13_o (X : Option (List Int32)) (n : Int32) (he0 : ¬ n = 0) (he1 : ¬ n = 1) (he2 : ¬ n = 2) (he3 : ¬ n = 3) (he4 : ¬ n = 4) (he5 : ¬ n = 5) : mm_Wp X 12 mm_r78 0 [some (.ref 0), some (.int n)] [] hp_0 (fun v1 h1 => ∃ x : Int32, v1 = some (.int x) ∧ (∃ fs, h1[114]? = some (.inr (10, fs))) ∧ mm_Wp X 12 mm_r158 0 [some (.ref 114), some (.int n)] [] h1 (fun v2 h2 => v2 = some (.int x) ∧ pk_ok h2)) := by
  have hf0 : n.toInt ≠ 0 := fun q => he0 (Int32.toInt_inj.mp (by rw [q]; rfl))
  have hf1 : n.toInt ≠ 1 := fun q => he1 (Int32.toInt_inj.mp (by rw [q]; rfl))
  have hf2 : n.toInt ≠ 2 := fun q => he2 (Int32.toInt_inj.mp (by rw [q]; rfl))
  have hf3 : n.toInt ≠ 3 := fun q => he3 (Int32.toInt_inj.mp (by rw [q]; rfl))
  have hf4 : n.toInt ≠ 4 := fun q => he4 (Int32.toInt_inj.mp (by rw [q]; rfl))
  have hf5 : n.toInt ≠ 5 := fun q => he5 (Int32.toInt_inj.mp (by rw [q]; rfl))
  refine wp_s (i := .iload_n 1) (n := 1) (pc' := 1) (st' := [.int n]) rfl rfl ?_
  refine wp_ts (t := 94) (st := []) rfl (by unfold mm_sw; rw [if_pos (by omega)]; rfl) ?_
  refine wp_s (i := .iconst (-1)) (n := 1) (pc' := 95) (st' := [.int (-1)]) rfl rfl ?_
  refine wp_r (i := .ireturn) (n := 1) (v := some (.int (-1))) rfl rfl ?_
  refine ⟨(-1), rfl, ⟨_, hb_114⟩, ?_⟩
  show mm_Wp X 12 mm_r158 0 [some (.ref 114), some (.int n)] [] _ _
  refine wp_s (i := .iload_n 1) (n := 1) (pc' := 1) (st' := [.int n]) rfl rfl ?_
  refine wp_ts (t := 92) (st := []) rfl (by unfold mm_sw; rw [if_pos (by omega)]; rfl) ?_
  refine wp_s (i := .iconst (-1)) (n := 1) (pc' := 93) (st' := [.int (-1)]) rfl rfl ?_
  refine wp_r (i := .ireturn) (n := 1) (v := some (.int (-1))) rfl rfl ?_
  exact ⟨rfl, pk_ok0⟩
theorem pk_13 (X : Option (List Int32)) (n : Int32) : mm_Wp X 12 mm_r78 0 [some (.ref 0), some (.int n)] [] hp_0 (fun v1 h1 => ∃ x : Int32, v1 = some (.int x) ∧ (∃ fs, h1[114]? = some (.inr (10, fs))) ∧ mm_Wp X 12 mm_r158 0 [some (.ref 114), some (.int n)] [] h1 (fun v2 h2 => v2 = some (.int x) ∧ pk_ok h2)) := by
  by_cases he0 : n = 0
  · subst he0; exact pk_13_0 X 
  by_cases he1 : n = 1
  · subst he1; exact pk_13_1 X 
  by_cases he2 : n = 2
  · subst he2; exact pk_13_2 X 
  by_cases he3 : n = 3
  · subst he3; exact pk_13_3 X 
  by_cases he4 : n = 4
  · subst he4; exact pk_13_4 X 
  by_cases he5 : n = 5
  · subst he5; exact pk_13_5 X 
  exact pk_13_o X n he0 he1 he2 he3 he4 he5
set_option maxRecDepth 20000 in
set_option maxHeartbeats 4000000 in
theorem pk_14 (X : Option (List Int32)) (n : Int32) : mm_Wp X 12 mm_r79 0 [some (.ref 0), some (.int n)] [] hp_0 (fun v1 h1 => ∃ x : Int32, v1 = some (.int x) ∧ (∃ fs, h1[114]? = some (.inr (10, fs))) ∧ mm_Wp X 12 mm_r159 0 [some (.ref 114), some (.int n)] [] h1 (fun v2 h2 => v2 = some (.int x) ∧ pk_ok h2)) := by
  refine wp_s (i := .aload_n 0) (n := 1) (pc' := 1) (st' := [.ref 0]) rfl rfl ?_
  refine wp_s (i := .iload_n 1) (n := 1) (pc' := 2) (st' := [.int n, .ref 0]) rfl rfl ?_
  refine wp_c (i := .invokevirtual 146) (n := 3) (Dq := 11) (r' := mm_r104) (as := [.ref 0, .int n]) (rest := []) (ls' := [some (.ref 0), some (.int n)]) rfl rfl rfl ?_
  refine wp_s (i := .iload_n 1) (n := 1) (pc' := 1) (st' := [.int n]) rfl rfl ?_
  refine wp_if (t := 19) (st := []) rfl rfl (fun hc1 => ?_) (fun hc1 => ?_)
  · skip
    have q1 : (n).toInt < 0 := by have := mc_t_lt hc1; simpa using this
    show mm_Wp _ _ _ 19 _ _ _ _
    refine wp_s (i := .iconst 0) (n := 1) (pc' := 20) (st' := [.int 0]) rfl rfl ?_
    refine wp_r (i := .ireturn) (n := 1) (v := some (.int 0)) rfl rfl ?_
    show mm_Wp X 12 mm_r79 5 [some (.ref 0), some (.int n)] [.int 0] _ _
    refine wp_s (i := .ifCond .eq 15) (n := 3) (pc' := 20) (st' := []) rfl rfl ?_
    refine wp_s (i := .iconst (-1)) (n := 1) (pc' := 21) (st' := [.int (-1)]) rfl rfl ?_
    refine wp_r (i := .ireturn) (n := 1) (v := some (.int (-1))) rfl rfl ?_
    refine ⟨(-1), rfl, ⟨_, hb_114⟩, ?_⟩
    show mm_Wp X 12 mm_r159 0 [some (.ref 114), some (.int n)] [] _ _
    refine wp_s (i := .aload_n 0) (n := 1) (pc' := 1) (st' := [.ref 114]) rfl rfl ?_
    refine wp_s (i := .iload_n 1) (n := 1) (pc' := 2) (st' := [.int n, .ref 114]) rfl rfl ?_
    refine wp_c (i := .invokevirtual 195) (n := 3) (Dq := 11) (r' := mm_r139) (as := [.ref 114, .int n]) (rest := []) (ls' := [some (.ref 114), some (.int n)]) rfl rfl rfl ?_
    refine wp_s (i := .iload_n 1) (n := 1) (pc' := 1) (st' := [.int n]) rfl rfl ?_
    refine wp_s (i := .i2l) (n := 1) (pc' := 2) (st' := [.long ((n).toInt64)]) rfl rfl ?_
    refine wp_s (i := .lconst 0) (n := 1) (pc' := 3) (st' := [.long 0, .long ((n).toInt64)]) rfl rfl ?_
    refine wp_s (i := .aload_n 0) (n := 1) (pc' := 4) (st' := [.ref 114, .long 0, .long ((n).toInt64)]) rfl rfl ?_
    refine wp_gf (idx := 170) (a := 114) (v := .int 0) (pc' := 7) rfl rfl hb_114 rfl rfl ?_
    refine wp_s (i := .iconst 1) (n := 1) (pc' := 8) (st' := [.int 1, .int 0, .long 0, .long ((n).toInt64)]) rfl rfl ?_
    refine wp_s (i := .isub) (n := 1) (pc' := 9) (st' := [.int (-1), .long 0, .long ((n).toInt64)]) rfl rfl ?_
    refine wp_s (i := .i2l) (n := 1) (pc' := 10) (st' := [.long (-1), .long 0, .long ((n).toInt64)]) rfl rfl ?_
    refine wp_c (i := .invokestatic 81) (n := 3) (Dq := 10) (r' := mm_r120) (as := [.long ((n).toInt64), .long 0, .long (-1)]) (rest := []) (ls' := [some (.long ((n).toInt64)), none, some (.long 0), none, some (.long (-1)), none]) rfl rfl rfl ?_
    refine wp_s (i := .lload_n 0) (n := 1) (pc' := 1) (st' := [.long ((n).toInt64)]) rfl rfl ?_
    refine wp_s (i := .lload_n 2) (n := 1) (pc' := 2) (st' := [.long 0, .long ((n).toInt64)]) rfl rfl ?_
    refine wp_s (i := .lcmp) (n := 1) (pc' := 3) (st' := [.int (lg_cmp ((n).toInt64) 0)]) rfl rfl ?_
    refine wp_if (t := 17) (st := []) rfl rfl (fun hc2 => ?_) (fun hc2 => ?_)
    · skip
      have q2 : (n).toInt < 0 := by have := lc_t_lt hc2; simpa using this
      show mm_Wp _ _ _ 17 _ _ _ _
      refine wp_s (i := .iconst 0) (n := 1) (pc' := 18) (st' := [.int 0]) rfl rfl ?_
      refine wp_r (i := .ireturn) (n := 1) (v := some (.int 0)) rfl rfl ?_
      show mm_Wp X 11 mm_r139 13 [some (.ref 114), some (.int n)] [.int 0] _ _
      refine wp_r (i := .ireturn) (n := 1) (v := some (.int 0)) rfl rfl ?_
      show mm_Wp X 12 mm_r159 5 [some (.ref 114), some (.int n)] [.int 0] _ _
      refine wp_s (i := .ifCond .eq 15) (n := 3) (pc' := 20) (st' := []) rfl rfl ?_
      refine wp_s (i := .iconst (-1)) (n := 1) (pc' := 21) (st' := [.int (-1)]) rfl rfl ?_
      refine wp_r (i := .ireturn) (n := 1) (v := some (.int (-1))) rfl rfl ?_
      exact ⟨rfl, pk_ok0⟩
    · skip
      have q2 : (n).toInt ≥ 0 := by have := lc_f_lt hc2; simpa using this
      exfalso; omega
  · skip
    have q1 : (n).toInt ≥ 0 := by have := mc_f_lt hc1; simpa using this
    show mm_Wp _ _ _ 4 _ _ _ _
    refine wp_s (i := .iload_n 1) (n := 1) (pc' := 5) (st' := [.int n]) rfl rfl ?_
    refine wp_s (i := .aload_n 0) (n := 1) (pc' := 6) (st' := [.ref 0, .int n]) rfl rfl ?_
    refine wp_gf (idx := 24) (a := 0) (v := .ref 25) (pc' := 9) rfl rfl hb_0 rfl rfl ?_
    refine wp_gf (idx := 114) (a := 25) (v := .int 0) (pc' := 12) rfl rfl hb_25 rfl rfl ?_
    refine wp_ic (t := 19) (st := []) rfl rfl (fun hc3 => ?_) (fun hc3 => ?_)
    · skip
      have q3 : (n).toInt ≥ 0 := by have := mc_t_ge hc3; simpa using this
      show mm_Wp _ _ _ 19 _ _ _ _
      refine wp_s (i := .iconst 0) (n := 1) (pc' := 20) (st' := [.int 0]) rfl rfl ?_
      refine wp_r (i := .ireturn) (n := 1) (v := some (.int 0)) rfl rfl ?_
      show mm_Wp X 12 mm_r79 5 [some (.ref 0), some (.int n)] [.int 0] _ _
      refine wp_s (i := .ifCond .eq 15) (n := 3) (pc' := 20) (st' := []) rfl rfl ?_
      refine wp_s (i := .iconst (-1)) (n := 1) (pc' := 21) (st' := [.int (-1)]) rfl rfl ?_
      refine wp_r (i := .ireturn) (n := 1) (v := some (.int (-1))) rfl rfl ?_
      refine ⟨(-1), rfl, ⟨_, hb_114⟩, ?_⟩
      show mm_Wp X 12 mm_r159 0 [some (.ref 114), some (.int n)] [] _ _
      refine wp_s (i := .aload_n 0) (n := 1) (pc' := 1) (st' := [.ref 114]) rfl rfl ?_
      refine wp_s (i := .iload_n 1) (n := 1) (pc' := 2) (st' := [.int n, .ref 114]) rfl rfl ?_
      refine wp_c (i := .invokevirtual 195) (n := 3) (Dq := 11) (r' := mm_r139) (as := [.ref 114, .int n]) (rest := []) (ls' := [some (.ref 114), some (.int n)]) rfl rfl rfl ?_
      refine wp_s (i := .iload_n 1) (n := 1) (pc' := 1) (st' := [.int n]) rfl rfl ?_
      refine wp_s (i := .i2l) (n := 1) (pc' := 2) (st' := [.long ((n).toInt64)]) rfl rfl ?_
      refine wp_s (i := .lconst 0) (n := 1) (pc' := 3) (st' := [.long 0, .long ((n).toInt64)]) rfl rfl ?_
      refine wp_s (i := .aload_n 0) (n := 1) (pc' := 4) (st' := [.ref 114, .long 0, .long ((n).toInt64)]) rfl rfl ?_
      refine wp_gf (idx := 170) (a := 114) (v := .int 0) (pc' := 7) rfl rfl hb_114 rfl rfl ?_
      refine wp_s (i := .iconst 1) (n := 1) (pc' := 8) (st' := [.int 1, .int 0, .long 0, .long ((n).toInt64)]) rfl rfl ?_
      refine wp_s (i := .isub) (n := 1) (pc' := 9) (st' := [.int (-1), .long 0, .long ((n).toInt64)]) rfl rfl ?_
      refine wp_s (i := .i2l) (n := 1) (pc' := 10) (st' := [.long (-1), .long 0, .long ((n).toInt64)]) rfl rfl ?_
      refine wp_c (i := .invokestatic 81) (n := 3) (Dq := 10) (r' := mm_r120) (as := [.long ((n).toInt64), .long 0, .long (-1)]) (rest := []) (ls' := [some (.long ((n).toInt64)), none, some (.long 0), none, some (.long (-1)), none]) rfl rfl rfl ?_
      refine wp_s (i := .lload_n 0) (n := 1) (pc' := 1) (st' := [.long ((n).toInt64)]) rfl rfl ?_
      refine wp_s (i := .lload_n 2) (n := 1) (pc' := 2) (st' := [.long 0, .long ((n).toInt64)]) rfl rfl ?_
      refine wp_s (i := .lcmp) (n := 1) (pc' := 3) (st' := [.int (lg_cmp ((n).toInt64) 0)]) rfl rfl ?_
      refine wp_if (t := 17) (st := []) rfl rfl (fun hc4 => ?_) (fun hc4 => ?_)
      · skip
        have q4 : (n).toInt < 0 := by have := lc_t_lt hc4; simpa using this
        exfalso; omega
      · skip
        have q4 : (n).toInt ≥ 0 := by have := lc_f_lt hc4; simpa using this
        show mm_Wp _ _ _ 6 _ _ _ _
        refine wp_s (i := .lload_n 0) (n := 1) (pc' := 7) (st' := [.long ((n).toInt64)]) rfl rfl ?_
        refine wp_s (i := .lload 4) (n := 2) (pc' := 9) (st' := [.long (-1), .long ((n).toInt64)]) rfl rfl ?_
        refine wp_s (i := .lcmp) (n := 1) (pc' := 10) (st' := [.int (lg_cmp ((n).toInt64) (-1))]) rfl rfl ?_
        refine wp_if (t := 17) (st := []) rfl rfl (fun hc5 => ?_) (fun hc5 => ?_)
        · skip
          have q5 : (n).toInt > -1 := by have := lc_t_gt hc5; simpa using this
          show mm_Wp _ _ _ 17 _ _ _ _
          refine wp_s (i := .iconst 0) (n := 1) (pc' := 18) (st' := [.int 0]) rfl rfl ?_
          refine wp_r (i := .ireturn) (n := 1) (v := some (.int 0)) rfl rfl ?_
          show mm_Wp X 11 mm_r139 13 [some (.ref 114), some (.int n)] [.int 0] _ _
          refine wp_r (i := .ireturn) (n := 1) (v := some (.int 0)) rfl rfl ?_
          show mm_Wp X 12 mm_r159 5 [some (.ref 114), some (.int n)] [.int 0] _ _
          refine wp_s (i := .ifCond .eq 15) (n := 3) (pc' := 20) (st' := []) rfl rfl ?_
          refine wp_s (i := .iconst (-1)) (n := 1) (pc' := 21) (st' := [.int (-1)]) rfl rfl ?_
          refine wp_r (i := .ireturn) (n := 1) (v := some (.int (-1))) rfl rfl ?_
          exact ⟨rfl, pk_ok0⟩
        · skip
          have q5 : (n).toInt ≤ -1 := by have := lc_f_gt hc5; simpa using this
          exfalso; omega
    · skip
      have q3 : (n).toInt < 0 := by have := mc_f_ge hc3; simpa using this
      exfalso; omega
set_option maxRecDepth 20000 in
set_option maxHeartbeats 4000000 in
theorem pk_15 (X : Option (List Int32)) (n w : Int32) : mm_Wp X 12 mm_r80 0 [some (.ref 0), some (.int n), some (.int w)] [] hp_0 (fun v1 h1 => ∃ x : Int32, v1 = some (.int x) ∧ (∃ fs, h1[114]? = some (.inr (10, fs))) ∧ mm_Wp X 12 mm_r163 0 [some (.ref 114), some (.int n), some (.int w)] [] h1 (fun v2 h2 => v2 = some (.int x) ∧ pk_ok h2)) := by
  refine wp_s (i := .aload_n 0) (n := 1) (pc' := 1) (st' := [.ref 0]) rfl rfl ?_
  refine wp_s (i := .iload_n 1) (n := 1) (pc' := 2) (st' := [.int n, .ref 0]) rfl rfl ?_
  refine wp_c (i := .invokevirtual 220) (n := 3) (Dq := 11) (r' := mm_r105) (as := [.ref 0, .int n]) (rest := []) (ls' := [some (.ref 0), some (.int n)]) rfl rfl rfl ?_
  refine wp_s (i := .iload_n 1) (n := 1) (pc' := 1) (st' := [.int n]) rfl rfl ?_
  refine wp_if (t := 19) (st := []) rfl rfl (fun hc1 => ?_) (fun hc1 => ?_)
  · skip
    have q1 : (n).toInt < 0 := by have := mc_t_lt hc1; simpa using this
    show mm_Wp _ _ _ 19 _ _ _ _
    refine wp_s (i := .iconst 0) (n := 1) (pc' := 20) (st' := [.int 0]) rfl rfl ?_
    refine wp_r (i := .ireturn) (n := 1) (v := some (.int 0)) rfl rfl ?_
    show mm_Wp X 12 mm_r80 5 [some (.ref 0), some (.int n), some (.int w)] [.int 0] _ _
    refine wp_s (i := .ifCond .eq 21) (n := 3) (pc' := 26) (st' := []) rfl rfl ?_
    refine wp_s (i := .iconst (-1)) (n := 1) (pc' := 27) (st' := [.int (-1)]) rfl rfl ?_
    refine wp_r (i := .ireturn) (n := 1) (v := some (.int (-1))) rfl rfl ?_
    refine ⟨(-1), rfl, ⟨_, hb_114⟩, ?_⟩
    show mm_Wp X 12 mm_r163 0 [some (.ref 114), some (.int n), some (.int w)] [] _ _
    refine wp_s (i := .aload_n 0) (n := 1) (pc' := 1) (st' := [.ref 114]) rfl rfl ?_
    refine wp_s (i := .iload_n 1) (n := 1) (pc' := 2) (st' := [.int n, .ref 114]) rfl rfl ?_
    refine wp_c (i := .invokevirtual 243) (n := 3) (Dq := 11) (r' := mm_r140) (as := [.ref 114, .int n]) (rest := []) (ls' := [some (.ref 114), some (.int n)]) rfl rfl rfl ?_
    refine wp_s (i := .iload_n 1) (n := 1) (pc' := 1) (st' := [.int n]) rfl rfl ?_
    refine wp_s (i := .i2l) (n := 1) (pc' := 2) (st' := [.long ((n).toInt64)]) rfl rfl ?_
    refine wp_s (i := .lconst 0) (n := 1) (pc' := 3) (st' := [.long 0, .long ((n).toInt64)]) rfl rfl ?_
    refine wp_s (i := .aload_n 0) (n := 1) (pc' := 4) (st' := [.ref 114, .long 0, .long ((n).toInt64)]) rfl rfl ?_
    refine wp_gf (idx := 173) (a := 114) (v := .int 0) (pc' := 7) rfl rfl hb_114 rfl rfl ?_
    refine wp_s (i := .iconst 1) (n := 1) (pc' := 8) (st' := [.int 1, .int 0, .long 0, .long ((n).toInt64)]) rfl rfl ?_
    refine wp_s (i := .isub) (n := 1) (pc' := 9) (st' := [.int (-1), .long 0, .long ((n).toInt64)]) rfl rfl ?_
    refine wp_s (i := .i2l) (n := 1) (pc' := 10) (st' := [.long (-1), .long 0, .long ((n).toInt64)]) rfl rfl ?_
    refine wp_c (i := .invokestatic 81) (n := 3) (Dq := 10) (r' := mm_r120) (as := [.long ((n).toInt64), .long 0, .long (-1)]) (rest := []) (ls' := [some (.long ((n).toInt64)), none, some (.long 0), none, some (.long (-1)), none]) rfl rfl rfl ?_
    refine wp_s (i := .lload_n 0) (n := 1) (pc' := 1) (st' := [.long ((n).toInt64)]) rfl rfl ?_
    refine wp_s (i := .lload_n 2) (n := 1) (pc' := 2) (st' := [.long 0, .long ((n).toInt64)]) rfl rfl ?_
    refine wp_s (i := .lcmp) (n := 1) (pc' := 3) (st' := [.int (lg_cmp ((n).toInt64) 0)]) rfl rfl ?_
    refine wp_if (t := 17) (st := []) rfl rfl (fun hc2 => ?_) (fun hc2 => ?_)
    · skip
      have q2 : (n).toInt < 0 := by have := lc_t_lt hc2; simpa using this
      show mm_Wp _ _ _ 17 _ _ _ _
      refine wp_s (i := .iconst 0) (n := 1) (pc' := 18) (st' := [.int 0]) rfl rfl ?_
      refine wp_r (i := .ireturn) (n := 1) (v := some (.int 0)) rfl rfl ?_
      show mm_Wp X 11 mm_r140 13 [some (.ref 114), some (.int n)] [.int 0] _ _
      refine wp_r (i := .ireturn) (n := 1) (v := some (.int 0)) rfl rfl ?_
      show mm_Wp X 12 mm_r163 5 [some (.ref 114), some (.int n), some (.int w)] [.int 0] _ _
      refine wp_s (i := .ifCond .ne 5) (n := 3) (pc' := 8) (st' := []) rfl rfl ?_
      refine wp_s (i := .iconst (-1)) (n := 1) (pc' := 9) (st' := [.int (-1)]) rfl rfl ?_
      refine wp_r (i := .ireturn) (n := 1) (v := some (.int (-1))) rfl rfl ?_
      exact ⟨rfl, pk_ok0⟩
    · skip
      have q2 : (n).toInt ≥ 0 := by have := lc_f_lt hc2; simpa using this
      exfalso; omega
  · skip
    have q1 : (n).toInt ≥ 0 := by have := mc_f_lt hc1; simpa using this
    show mm_Wp _ _ _ 4 _ _ _ _
    refine wp_s (i := .iload_n 1) (n := 1) (pc' := 5) (st' := [.int n]) rfl rfl ?_
    refine wp_s (i := .aload_n 0) (n := 1) (pc' := 6) (st' := [.ref 0, .int n]) rfl rfl ?_
    refine wp_gf (idx := 24) (a := 0) (v := .ref 25) (pc' := 9) rfl rfl hb_0 rfl rfl ?_
    refine wp_gf (idx := 117) (a := 25) (v := .int 0) (pc' := 12) rfl rfl hb_25 rfl rfl ?_
    refine wp_ic (t := 19) (st := []) rfl rfl (fun hc3 => ?_) (fun hc3 => ?_)
    · skip
      have q3 : (n).toInt ≥ 0 := by have := mc_t_ge hc3; simpa using this
      show mm_Wp _ _ _ 19 _ _ _ _
      refine wp_s (i := .iconst 0) (n := 1) (pc' := 20) (st' := [.int 0]) rfl rfl ?_
      refine wp_r (i := .ireturn) (n := 1) (v := some (.int 0)) rfl rfl ?_
      show mm_Wp X 12 mm_r80 5 [some (.ref 0), some (.int n), some (.int w)] [.int 0] _ _
      refine wp_s (i := .ifCond .eq 21) (n := 3) (pc' := 26) (st' := []) rfl rfl ?_
      refine wp_s (i := .iconst (-1)) (n := 1) (pc' := 27) (st' := [.int (-1)]) rfl rfl ?_
      refine wp_r (i := .ireturn) (n := 1) (v := some (.int (-1))) rfl rfl ?_
      refine ⟨(-1), rfl, ⟨_, hb_114⟩, ?_⟩
      show mm_Wp X 12 mm_r163 0 [some (.ref 114), some (.int n), some (.int w)] [] _ _
      refine wp_s (i := .aload_n 0) (n := 1) (pc' := 1) (st' := [.ref 114]) rfl rfl ?_
      refine wp_s (i := .iload_n 1) (n := 1) (pc' := 2) (st' := [.int n, .ref 114]) rfl rfl ?_
      refine wp_c (i := .invokevirtual 243) (n := 3) (Dq := 11) (r' := mm_r140) (as := [.ref 114, .int n]) (rest := []) (ls' := [some (.ref 114), some (.int n)]) rfl rfl rfl ?_
      refine wp_s (i := .iload_n 1) (n := 1) (pc' := 1) (st' := [.int n]) rfl rfl ?_
      refine wp_s (i := .i2l) (n := 1) (pc' := 2) (st' := [.long ((n).toInt64)]) rfl rfl ?_
      refine wp_s (i := .lconst 0) (n := 1) (pc' := 3) (st' := [.long 0, .long ((n).toInt64)]) rfl rfl ?_
      refine wp_s (i := .aload_n 0) (n := 1) (pc' := 4) (st' := [.ref 114, .long 0, .long ((n).toInt64)]) rfl rfl ?_
      refine wp_gf (idx := 173) (a := 114) (v := .int 0) (pc' := 7) rfl rfl hb_114 rfl rfl ?_
      refine wp_s (i := .iconst 1) (n := 1) (pc' := 8) (st' := [.int 1, .int 0, .long 0, .long ((n).toInt64)]) rfl rfl ?_
      refine wp_s (i := .isub) (n := 1) (pc' := 9) (st' := [.int (-1), .long 0, .long ((n).toInt64)]) rfl rfl ?_
      refine wp_s (i := .i2l) (n := 1) (pc' := 10) (st' := [.long (-1), .long 0, .long ((n).toInt64)]) rfl rfl ?_
      refine wp_c (i := .invokestatic 81) (n := 3) (Dq := 10) (r' := mm_r120) (as := [.long ((n).toInt64), .long 0, .long (-1)]) (rest := []) (ls' := [some (.long ((n).toInt64)), none, some (.long 0), none, some (.long (-1)), none]) rfl rfl rfl ?_
      refine wp_s (i := .lload_n 0) (n := 1) (pc' := 1) (st' := [.long ((n).toInt64)]) rfl rfl ?_
      refine wp_s (i := .lload_n 2) (n := 1) (pc' := 2) (st' := [.long 0, .long ((n).toInt64)]) rfl rfl ?_
      refine wp_s (i := .lcmp) (n := 1) (pc' := 3) (st' := [.int (lg_cmp ((n).toInt64) 0)]) rfl rfl ?_
      refine wp_if (t := 17) (st := []) rfl rfl (fun hc4 => ?_) (fun hc4 => ?_)
      · skip
        have q4 : (n).toInt < 0 := by have := lc_t_lt hc4; simpa using this
        exfalso; omega
      · skip
        have q4 : (n).toInt ≥ 0 := by have := lc_f_lt hc4; simpa using this
        show mm_Wp _ _ _ 6 _ _ _ _
        refine wp_s (i := .lload_n 0) (n := 1) (pc' := 7) (st' := [.long ((n).toInt64)]) rfl rfl ?_
        refine wp_s (i := .lload 4) (n := 2) (pc' := 9) (st' := [.long (-1), .long ((n).toInt64)]) rfl rfl ?_
        refine wp_s (i := .lcmp) (n := 1) (pc' := 10) (st' := [.int (lg_cmp ((n).toInt64) (-1))]) rfl rfl ?_
        refine wp_if (t := 17) (st := []) rfl rfl (fun hc5 => ?_) (fun hc5 => ?_)
        · skip
          have q5 : (n).toInt > -1 := by have := lc_t_gt hc5; simpa using this
          show mm_Wp _ _ _ 17 _ _ _ _
          refine wp_s (i := .iconst 0) (n := 1) (pc' := 18) (st' := [.int 0]) rfl rfl ?_
          refine wp_r (i := .ireturn) (n := 1) (v := some (.int 0)) rfl rfl ?_
          show mm_Wp X 11 mm_r140 13 [some (.ref 114), some (.int n)] [.int 0] _ _
          refine wp_r (i := .ireturn) (n := 1) (v := some (.int 0)) rfl rfl ?_
          show mm_Wp X 12 mm_r163 5 [some (.ref 114), some (.int n), some (.int w)] [.int 0] _ _
          refine wp_s (i := .ifCond .ne 5) (n := 3) (pc' := 8) (st' := []) rfl rfl ?_
          refine wp_s (i := .iconst (-1)) (n := 1) (pc' := 9) (st' := [.int (-1)]) rfl rfl ?_
          refine wp_r (i := .ireturn) (n := 1) (v := some (.int (-1))) rfl rfl ?_
          exact ⟨rfl, pk_ok0⟩
        · skip
          have q5 : (n).toInt ≤ -1 := by have := lc_f_gt hc5; simpa using this
          exfalso; omega
    · skip
      have q3 : (n).toInt < 0 := by have := mc_f_ge hc3; simpa using this
      exfalso; omega
set_option maxRecDepth 20000 in
set_option maxHeartbeats 4000000 in
theorem pk_16 (X : Option (List Int32)) (n w : Int32) : mm_Wp X 12 mm_r81 0 [some (.ref 0), some (.int n), some (.int w)] [] hp_0 (fun v1 h1 => ∃ x : Int32, v1 = some (.int x) ∧ (∃ fs, h1[114]? = some (.inr (10, fs))) ∧ mm_Wp X 12 mm_r164 0 [some (.ref 114), some (.int n), some (.int w)] [] h1 (fun v2 h2 => v2 = some (.int x) ∧ pk_ok h2)) := by
  refine wp_s (i := .aload_n 0) (n := 1) (pc' := 1) (st' := [.ref 0]) rfl rfl ?_
  refine wp_s (i := .iload_n 1) (n := 1) (pc' := 2) (st' := [.int n, .ref 0]) rfl rfl ?_
  refine wp_c (i := .invokevirtual 220) (n := 3) (Dq := 11) (r' := mm_r105) (as := [.ref 0, .int n]) (rest := []) (ls' := [some (.ref 0), some (.int n)]) rfl rfl rfl ?_
  refine wp_s (i := .iload_n 1) (n := 1) (pc' := 1) (st' := [.int n]) rfl rfl ?_
  refine wp_if (t := 19) (st := []) rfl rfl (fun hc1 => ?_) (fun hc1 => ?_)
  · skip
    have q1 : (n).toInt < 0 := by have := mc_t_lt hc1; simpa using this
    show mm_Wp _ _ _ 19 _ _ _ _
    refine wp_s (i := .iconst 0) (n := 1) (pc' := 20) (st' := [.int 0]) rfl rfl ?_
    refine wp_r (i := .ireturn) (n := 1) (v := some (.int 0)) rfl rfl ?_
    show mm_Wp X 12 mm_r81 5 [some (.ref 0), some (.int n), some (.int w)] [.int 0] _ _
    refine wp_s (i := .ifCond .eq 20) (n := 3) (pc' := 25) (st' := []) rfl rfl ?_
    refine wp_s (i := .iconst (-1)) (n := 1) (pc' := 26) (st' := [.int (-1)]) rfl rfl ?_
    refine wp_r (i := .ireturn) (n := 1) (v := some (.int (-1))) rfl rfl ?_
    refine ⟨(-1), rfl, ⟨_, hb_114⟩, ?_⟩
    show mm_Wp X 12 mm_r164 0 [some (.ref 114), some (.int n), some (.int w)] [] _ _
    refine wp_s (i := .aload_n 0) (n := 1) (pc' := 1) (st' := [.ref 114]) rfl rfl ?_
    refine wp_s (i := .iload_n 1) (n := 1) (pc' := 2) (st' := [.int n, .ref 114]) rfl rfl ?_
    refine wp_c (i := .invokevirtual 243) (n := 3) (Dq := 11) (r' := mm_r140) (as := [.ref 114, .int n]) (rest := []) (ls' := [some (.ref 114), some (.int n)]) rfl rfl rfl ?_
    refine wp_s (i := .iload_n 1) (n := 1) (pc' := 1) (st' := [.int n]) rfl rfl ?_
    refine wp_s (i := .i2l) (n := 1) (pc' := 2) (st' := [.long ((n).toInt64)]) rfl rfl ?_
    refine wp_s (i := .lconst 0) (n := 1) (pc' := 3) (st' := [.long 0, .long ((n).toInt64)]) rfl rfl ?_
    refine wp_s (i := .aload_n 0) (n := 1) (pc' := 4) (st' := [.ref 114, .long 0, .long ((n).toInt64)]) rfl rfl ?_
    refine wp_gf (idx := 173) (a := 114) (v := .int 0) (pc' := 7) rfl rfl hb_114 rfl rfl ?_
    refine wp_s (i := .iconst 1) (n := 1) (pc' := 8) (st' := [.int 1, .int 0, .long 0, .long ((n).toInt64)]) rfl rfl ?_
    refine wp_s (i := .isub) (n := 1) (pc' := 9) (st' := [.int (-1), .long 0, .long ((n).toInt64)]) rfl rfl ?_
    refine wp_s (i := .i2l) (n := 1) (pc' := 10) (st' := [.long (-1), .long 0, .long ((n).toInt64)]) rfl rfl ?_
    refine wp_c (i := .invokestatic 81) (n := 3) (Dq := 10) (r' := mm_r120) (as := [.long ((n).toInt64), .long 0, .long (-1)]) (rest := []) (ls' := [some (.long ((n).toInt64)), none, some (.long 0), none, some (.long (-1)), none]) rfl rfl rfl ?_
    refine wp_s (i := .lload_n 0) (n := 1) (pc' := 1) (st' := [.long ((n).toInt64)]) rfl rfl ?_
    refine wp_s (i := .lload_n 2) (n := 1) (pc' := 2) (st' := [.long 0, .long ((n).toInt64)]) rfl rfl ?_
    refine wp_s (i := .lcmp) (n := 1) (pc' := 3) (st' := [.int (lg_cmp ((n).toInt64) 0)]) rfl rfl ?_
    refine wp_if (t := 17) (st := []) rfl rfl (fun hc2 => ?_) (fun hc2 => ?_)
    · skip
      have q2 : (n).toInt < 0 := by have := lc_t_lt hc2; simpa using this
      show mm_Wp _ _ _ 17 _ _ _ _
      refine wp_s (i := .iconst 0) (n := 1) (pc' := 18) (st' := [.int 0]) rfl rfl ?_
      refine wp_r (i := .ireturn) (n := 1) (v := some (.int 0)) rfl rfl ?_
      show mm_Wp X 11 mm_r140 13 [some (.ref 114), some (.int n)] [.int 0] _ _
      refine wp_r (i := .ireturn) (n := 1) (v := some (.int 0)) rfl rfl ?_
      show mm_Wp X 12 mm_r164 5 [some (.ref 114), some (.int n), some (.int w)] [.int 0] _ _
      refine wp_s (i := .ifCond .eq 20) (n := 3) (pc' := 25) (st' := []) rfl rfl ?_
      refine wp_s (i := .iconst (-1)) (n := 1) (pc' := 26) (st' := [.int (-1)]) rfl rfl ?_
      refine wp_r (i := .ireturn) (n := 1) (v := some (.int (-1))) rfl rfl ?_
      exact ⟨rfl, pk_ok0⟩
    · skip
      have q2 : (n).toInt ≥ 0 := by have := lc_f_lt hc2; simpa using this
      exfalso; omega
  · skip
    have q1 : (n).toInt ≥ 0 := by have := mc_f_lt hc1; simpa using this
    show mm_Wp _ _ _ 4 _ _ _ _
    refine wp_s (i := .iload_n 1) (n := 1) (pc' := 5) (st' := [.int n]) rfl rfl ?_
    refine wp_s (i := .aload_n 0) (n := 1) (pc' := 6) (st' := [.ref 0, .int n]) rfl rfl ?_
    refine wp_gf (idx := 24) (a := 0) (v := .ref 25) (pc' := 9) rfl rfl hb_0 rfl rfl ?_
    refine wp_gf (idx := 117) (a := 25) (v := .int 0) (pc' := 12) rfl rfl hb_25 rfl rfl ?_
    refine wp_ic (t := 19) (st := []) rfl rfl (fun hc3 => ?_) (fun hc3 => ?_)
    · skip
      have q3 : (n).toInt ≥ 0 := by have := mc_t_ge hc3; simpa using this
      show mm_Wp _ _ _ 19 _ _ _ _
      refine wp_s (i := .iconst 0) (n := 1) (pc' := 20) (st' := [.int 0]) rfl rfl ?_
      refine wp_r (i := .ireturn) (n := 1) (v := some (.int 0)) rfl rfl ?_
      show mm_Wp X 12 mm_r81 5 [some (.ref 0), some (.int n), some (.int w)] [.int 0] _ _
      refine wp_s (i := .ifCond .eq 20) (n := 3) (pc' := 25) (st' := []) rfl rfl ?_
      refine wp_s (i := .iconst (-1)) (n := 1) (pc' := 26) (st' := [.int (-1)]) rfl rfl ?_
      refine wp_r (i := .ireturn) (n := 1) (v := some (.int (-1))) rfl rfl ?_
      refine ⟨(-1), rfl, ⟨_, hb_114⟩, ?_⟩
      show mm_Wp X 12 mm_r164 0 [some (.ref 114), some (.int n), some (.int w)] [] _ _
      refine wp_s (i := .aload_n 0) (n := 1) (pc' := 1) (st' := [.ref 114]) rfl rfl ?_
      refine wp_s (i := .iload_n 1) (n := 1) (pc' := 2) (st' := [.int n, .ref 114]) rfl rfl ?_
      refine wp_c (i := .invokevirtual 243) (n := 3) (Dq := 11) (r' := mm_r140) (as := [.ref 114, .int n]) (rest := []) (ls' := [some (.ref 114), some (.int n)]) rfl rfl rfl ?_
      refine wp_s (i := .iload_n 1) (n := 1) (pc' := 1) (st' := [.int n]) rfl rfl ?_
      refine wp_s (i := .i2l) (n := 1) (pc' := 2) (st' := [.long ((n).toInt64)]) rfl rfl ?_
      refine wp_s (i := .lconst 0) (n := 1) (pc' := 3) (st' := [.long 0, .long ((n).toInt64)]) rfl rfl ?_
      refine wp_s (i := .aload_n 0) (n := 1) (pc' := 4) (st' := [.ref 114, .long 0, .long ((n).toInt64)]) rfl rfl ?_
      refine wp_gf (idx := 173) (a := 114) (v := .int 0) (pc' := 7) rfl rfl hb_114 rfl rfl ?_
      refine wp_s (i := .iconst 1) (n := 1) (pc' := 8) (st' := [.int 1, .int 0, .long 0, .long ((n).toInt64)]) rfl rfl ?_
      refine wp_s (i := .isub) (n := 1) (pc' := 9) (st' := [.int (-1), .long 0, .long ((n).toInt64)]) rfl rfl ?_
      refine wp_s (i := .i2l) (n := 1) (pc' := 10) (st' := [.long (-1), .long 0, .long ((n).toInt64)]) rfl rfl ?_
      refine wp_c (i := .invokestatic 81) (n := 3) (Dq := 10) (r' := mm_r120) (as := [.long ((n).toInt64), .long 0, .long (-1)]) (rest := []) (ls' := [some (.long ((n).toInt64)), none, some (.long 0), none, some (.long (-1)), none]) rfl rfl rfl ?_
      refine wp_s (i := .lload_n 0) (n := 1) (pc' := 1) (st' := [.long ((n).toInt64)]) rfl rfl ?_
      refine wp_s (i := .lload_n 2) (n := 1) (pc' := 2) (st' := [.long 0, .long ((n).toInt64)]) rfl rfl ?_
      refine wp_s (i := .lcmp) (n := 1) (pc' := 3) (st' := [.int (lg_cmp ((n).toInt64) 0)]) rfl rfl ?_
      refine wp_if (t := 17) (st := []) rfl rfl (fun hc4 => ?_) (fun hc4 => ?_)
      · skip
        have q4 : (n).toInt < 0 := by have := lc_t_lt hc4; simpa using this
        exfalso; omega
      · skip
        have q4 : (n).toInt ≥ 0 := by have := lc_f_lt hc4; simpa using this
        show mm_Wp _ _ _ 6 _ _ _ _
        refine wp_s (i := .lload_n 0) (n := 1) (pc' := 7) (st' := [.long ((n).toInt64)]) rfl rfl ?_
        refine wp_s (i := .lload 4) (n := 2) (pc' := 9) (st' := [.long (-1), .long ((n).toInt64)]) rfl rfl ?_
        refine wp_s (i := .lcmp) (n := 1) (pc' := 10) (st' := [.int (lg_cmp ((n).toInt64) (-1))]) rfl rfl ?_
        refine wp_if (t := 17) (st := []) rfl rfl (fun hc5 => ?_) (fun hc5 => ?_)
        · skip
          have q5 : (n).toInt > -1 := by have := lc_t_gt hc5; simpa using this
          show mm_Wp _ _ _ 17 _ _ _ _
          refine wp_s (i := .iconst 0) (n := 1) (pc' := 18) (st' := [.int 0]) rfl rfl ?_
          refine wp_r (i := .ireturn) (n := 1) (v := some (.int 0)) rfl rfl ?_
          show mm_Wp X 11 mm_r140 13 [some (.ref 114), some (.int n)] [.int 0] _ _
          refine wp_r (i := .ireturn) (n := 1) (v := some (.int 0)) rfl rfl ?_
          show mm_Wp X 12 mm_r164 5 [some (.ref 114), some (.int n), some (.int w)] [.int 0] _ _
          refine wp_s (i := .ifCond .eq 20) (n := 3) (pc' := 25) (st' := []) rfl rfl ?_
          refine wp_s (i := .iconst (-1)) (n := 1) (pc' := 26) (st' := [.int (-1)]) rfl rfl ?_
          refine wp_r (i := .ireturn) (n := 1) (v := some (.int (-1))) rfl rfl ?_
          exact ⟨rfl, pk_ok0⟩
        · skip
          have q5 : (n).toInt ≤ -1 := by have := lc_f_gt hc5; simpa using this
          exfalso; omega
    · skip
      have q3 : (n).toInt < 0 := by have := mc_f_ge hc3; simpa using this
      exfalso; omega
set_option maxRecDepth 20000 in
set_option maxHeartbeats 4000000 in
theorem pk_17 (X : Option (List Int32)) (n w : Int32) : mm_Wp X 12 mm_r82 0 [some (.ref 0), some (.int n), some (.int w), none] [] hp_0 (fun v1 h1 => ∃ x : Int32, v1 = some (.int x) ∧ (∃ fs, h1[114]? = some (.inr (10, fs))) ∧ mm_Wp X 12 mm_r165 0 [some (.ref 114), some (.int n), some (.int w), none, none, none, none] [] h1 (fun v2 h2 => v2 = some (.int x) ∧ pk_ok h2)) := by
  refine wp_s (i := .aload_n 0) (n := 1) (pc' := 1) (st' := [.ref 0]) rfl rfl ?_
  refine wp_s (i := .iload_n 1) (n := 1) (pc' := 2) (st' := [.int n, .ref 0]) rfl rfl ?_
  refine wp_c (i := .invokevirtual 220) (n := 3) (Dq := 11) (r' := mm_r105) (as := [.ref 0, .int n]) (rest := []) (ls' := [some (.ref 0), some (.int n)]) rfl rfl rfl ?_
  refine wp_s (i := .iload_n 1) (n := 1) (pc' := 1) (st' := [.int n]) rfl rfl ?_
  refine wp_if (t := 19) (st := []) rfl rfl (fun hc1 => ?_) (fun hc1 => ?_)
  · skip
    have q1 : (n).toInt < 0 := by have := mc_t_lt hc1; simpa using this
    show mm_Wp _ _ _ 19 _ _ _ _
    refine wp_s (i := .iconst 0) (n := 1) (pc' := 20) (st' := [.int 0]) rfl rfl ?_
    refine wp_r (i := .ireturn) (n := 1) (v := some (.int 0)) rfl rfl ?_
    show mm_Wp X 12 mm_r82 5 [some (.ref 0), some (.int n), some (.int w), none] [.int 0] _ _
    refine wp_s (i := .ifCond .eq 13) (n := 3) (pc' := 18) (st' := []) rfl rfl ?_
    refine wp_s (i := .iconst (-1)) (n := 1) (pc' := 19) (st' := [.int (-1)]) rfl rfl ?_
    refine wp_r (i := .ireturn) (n := 1) (v := some (.int (-1))) rfl rfl ?_
    refine ⟨(-1), rfl, ⟨_, hb_114⟩, ?_⟩
    show mm_Wp X 12 mm_r165 0 [some (.ref 114), some (.int n), some (.int w), none, none, none, none] [] _ _
    refine wp_s (i := .aload_n 0) (n := 1) (pc' := 1) (st' := [.ref 114]) rfl rfl ?_
    refine wp_s (i := .iload_n 1) (n := 1) (pc' := 2) (st' := [.int n, .ref 114]) rfl rfl ?_
    refine wp_c (i := .invokevirtual 243) (n := 3) (Dq := 11) (r' := mm_r140) (as := [.ref 114, .int n]) (rest := []) (ls' := [some (.ref 114), some (.int n)]) rfl rfl rfl ?_
    refine wp_s (i := .iload_n 1) (n := 1) (pc' := 1) (st' := [.int n]) rfl rfl ?_
    refine wp_s (i := .i2l) (n := 1) (pc' := 2) (st' := [.long ((n).toInt64)]) rfl rfl ?_
    refine wp_s (i := .lconst 0) (n := 1) (pc' := 3) (st' := [.long 0, .long ((n).toInt64)]) rfl rfl ?_
    refine wp_s (i := .aload_n 0) (n := 1) (pc' := 4) (st' := [.ref 114, .long 0, .long ((n).toInt64)]) rfl rfl ?_
    refine wp_gf (idx := 173) (a := 114) (v := .int 0) (pc' := 7) rfl rfl hb_114 rfl rfl ?_
    refine wp_s (i := .iconst 1) (n := 1) (pc' := 8) (st' := [.int 1, .int 0, .long 0, .long ((n).toInt64)]) rfl rfl ?_
    refine wp_s (i := .isub) (n := 1) (pc' := 9) (st' := [.int (-1), .long 0, .long ((n).toInt64)]) rfl rfl ?_
    refine wp_s (i := .i2l) (n := 1) (pc' := 10) (st' := [.long (-1), .long 0, .long ((n).toInt64)]) rfl rfl ?_
    refine wp_c (i := .invokestatic 81) (n := 3) (Dq := 10) (r' := mm_r120) (as := [.long ((n).toInt64), .long 0, .long (-1)]) (rest := []) (ls' := [some (.long ((n).toInt64)), none, some (.long 0), none, some (.long (-1)), none]) rfl rfl rfl ?_
    refine wp_s (i := .lload_n 0) (n := 1) (pc' := 1) (st' := [.long ((n).toInt64)]) rfl rfl ?_
    refine wp_s (i := .lload_n 2) (n := 1) (pc' := 2) (st' := [.long 0, .long ((n).toInt64)]) rfl rfl ?_
    refine wp_s (i := .lcmp) (n := 1) (pc' := 3) (st' := [.int (lg_cmp ((n).toInt64) 0)]) rfl rfl ?_
    refine wp_if (t := 17) (st := []) rfl rfl (fun hc2 => ?_) (fun hc2 => ?_)
    · skip
      have q2 : (n).toInt < 0 := by have := lc_t_lt hc2; simpa using this
      show mm_Wp _ _ _ 17 _ _ _ _
      refine wp_s (i := .iconst 0) (n := 1) (pc' := 18) (st' := [.int 0]) rfl rfl ?_
      refine wp_r (i := .ireturn) (n := 1) (v := some (.int 0)) rfl rfl ?_
      show mm_Wp X 11 mm_r140 13 [some (.ref 114), some (.int n)] [.int 0] _ _
      refine wp_r (i := .ireturn) (n := 1) (v := some (.int 0)) rfl rfl ?_
      show mm_Wp X 12 mm_r165 5 [some (.ref 114), some (.int n), some (.int w), none, none, none, none] [.int 0] _ _
      refine wp_s (i := .ifCond .eq 15) (n := 3) (pc' := 20) (st' := []) rfl rfl ?_
      refine wp_s (i := .iconst (-1)) (n := 1) (pc' := 21) (st' := [.int (-1)]) rfl rfl ?_
      refine wp_r (i := .ireturn) (n := 1) (v := some (.int (-1))) rfl rfl ?_
      exact ⟨rfl, pk_ok0⟩
    · skip
      have q2 : (n).toInt ≥ 0 := by have := lc_f_lt hc2; simpa using this
      exfalso; omega
  · skip
    have q1 : (n).toInt ≥ 0 := by have := mc_f_lt hc1; simpa using this
    show mm_Wp _ _ _ 4 _ _ _ _
    refine wp_s (i := .iload_n 1) (n := 1) (pc' := 5) (st' := [.int n]) rfl rfl ?_
    refine wp_s (i := .aload_n 0) (n := 1) (pc' := 6) (st' := [.ref 0, .int n]) rfl rfl ?_
    refine wp_gf (idx := 24) (a := 0) (v := .ref 25) (pc' := 9) rfl rfl hb_0 rfl rfl ?_
    refine wp_gf (idx := 117) (a := 25) (v := .int 0) (pc' := 12) rfl rfl hb_25 rfl rfl ?_
    refine wp_ic (t := 19) (st := []) rfl rfl (fun hc3 => ?_) (fun hc3 => ?_)
    · skip
      have q3 : (n).toInt ≥ 0 := by have := mc_t_ge hc3; simpa using this
      show mm_Wp _ _ _ 19 _ _ _ _
      refine wp_s (i := .iconst 0) (n := 1) (pc' := 20) (st' := [.int 0]) rfl rfl ?_
      refine wp_r (i := .ireturn) (n := 1) (v := some (.int 0)) rfl rfl ?_
      show mm_Wp X 12 mm_r82 5 [some (.ref 0), some (.int n), some (.int w), none] [.int 0] _ _
      refine wp_s (i := .ifCond .eq 13) (n := 3) (pc' := 18) (st' := []) rfl rfl ?_
      refine wp_s (i := .iconst (-1)) (n := 1) (pc' := 19) (st' := [.int (-1)]) rfl rfl ?_
      refine wp_r (i := .ireturn) (n := 1) (v := some (.int (-1))) rfl rfl ?_
      refine ⟨(-1), rfl, ⟨_, hb_114⟩, ?_⟩
      show mm_Wp X 12 mm_r165 0 [some (.ref 114), some (.int n), some (.int w), none, none, none, none] [] _ _
      refine wp_s (i := .aload_n 0) (n := 1) (pc' := 1) (st' := [.ref 114]) rfl rfl ?_
      refine wp_s (i := .iload_n 1) (n := 1) (pc' := 2) (st' := [.int n, .ref 114]) rfl rfl ?_
      refine wp_c (i := .invokevirtual 243) (n := 3) (Dq := 11) (r' := mm_r140) (as := [.ref 114, .int n]) (rest := []) (ls' := [some (.ref 114), some (.int n)]) rfl rfl rfl ?_
      refine wp_s (i := .iload_n 1) (n := 1) (pc' := 1) (st' := [.int n]) rfl rfl ?_
      refine wp_s (i := .i2l) (n := 1) (pc' := 2) (st' := [.long ((n).toInt64)]) rfl rfl ?_
      refine wp_s (i := .lconst 0) (n := 1) (pc' := 3) (st' := [.long 0, .long ((n).toInt64)]) rfl rfl ?_
      refine wp_s (i := .aload_n 0) (n := 1) (pc' := 4) (st' := [.ref 114, .long 0, .long ((n).toInt64)]) rfl rfl ?_
      refine wp_gf (idx := 173) (a := 114) (v := .int 0) (pc' := 7) rfl rfl hb_114 rfl rfl ?_
      refine wp_s (i := .iconst 1) (n := 1) (pc' := 8) (st' := [.int 1, .int 0, .long 0, .long ((n).toInt64)]) rfl rfl ?_
      refine wp_s (i := .isub) (n := 1) (pc' := 9) (st' := [.int (-1), .long 0, .long ((n).toInt64)]) rfl rfl ?_
      refine wp_s (i := .i2l) (n := 1) (pc' := 10) (st' := [.long (-1), .long 0, .long ((n).toInt64)]) rfl rfl ?_
      refine wp_c (i := .invokestatic 81) (n := 3) (Dq := 10) (r' := mm_r120) (as := [.long ((n).toInt64), .long 0, .long (-1)]) (rest := []) (ls' := [some (.long ((n).toInt64)), none, some (.long 0), none, some (.long (-1)), none]) rfl rfl rfl ?_
      refine wp_s (i := .lload_n 0) (n := 1) (pc' := 1) (st' := [.long ((n).toInt64)]) rfl rfl ?_
      refine wp_s (i := .lload_n 2) (n := 1) (pc' := 2) (st' := [.long 0, .long ((n).toInt64)]) rfl rfl ?_
      refine wp_s (i := .lcmp) (n := 1) (pc' := 3) (st' := [.int (lg_cmp ((n).toInt64) 0)]) rfl rfl ?_
      refine wp_if (t := 17) (st := []) rfl rfl (fun hc4 => ?_) (fun hc4 => ?_)
      · skip
        have q4 : (n).toInt < 0 := by have := lc_t_lt hc4; simpa using this
        exfalso; omega
      · skip
        have q4 : (n).toInt ≥ 0 := by have := lc_f_lt hc4; simpa using this
        show mm_Wp _ _ _ 6 _ _ _ _
        refine wp_s (i := .lload_n 0) (n := 1) (pc' := 7) (st' := [.long ((n).toInt64)]) rfl rfl ?_
        refine wp_s (i := .lload 4) (n := 2) (pc' := 9) (st' := [.long (-1), .long ((n).toInt64)]) rfl rfl ?_
        refine wp_s (i := .lcmp) (n := 1) (pc' := 10) (st' := [.int (lg_cmp ((n).toInt64) (-1))]) rfl rfl ?_
        refine wp_if (t := 17) (st := []) rfl rfl (fun hc5 => ?_) (fun hc5 => ?_)
        · skip
          have q5 : (n).toInt > -1 := by have := lc_t_gt hc5; simpa using this
          show mm_Wp _ _ _ 17 _ _ _ _
          refine wp_s (i := .iconst 0) (n := 1) (pc' := 18) (st' := [.int 0]) rfl rfl ?_
          refine wp_r (i := .ireturn) (n := 1) (v := some (.int 0)) rfl rfl ?_
          show mm_Wp X 11 mm_r140 13 [some (.ref 114), some (.int n)] [.int 0] _ _
          refine wp_r (i := .ireturn) (n := 1) (v := some (.int 0)) rfl rfl ?_
          show mm_Wp X 12 mm_r165 5 [some (.ref 114), some (.int n), some (.int w), none, none, none, none] [.int 0] _ _
          refine wp_s (i := .ifCond .eq 15) (n := 3) (pc' := 20) (st' := []) rfl rfl ?_
          refine wp_s (i := .iconst (-1)) (n := 1) (pc' := 21) (st' := [.int (-1)]) rfl rfl ?_
          refine wp_r (i := .ireturn) (n := 1) (v := some (.int (-1))) rfl rfl ?_
          exact ⟨rfl, pk_ok0⟩
        · skip
          have q5 : (n).toInt ≤ -1 := by have := lc_f_gt hc5; simpa using this
          exfalso; omega
    · skip
      have q3 : (n).toInt < 0 := by have := mc_f_ge hc3; simpa using this
      exfalso; omega
set_option maxRecDepth 20000 in
set_option maxHeartbeats 4000000 in
theorem pk_18 (X : Option (List Int32)) (n : Int32) : mm_Wp X 12 mm_r83 0 [some (.ref 0), some (.int n)] [] hp_0 (fun v1 h1 => ∃ x : Int32, v1 = some (.int x) ∧ (∃ fs, h1[114]? = some (.inr (10, fs))) ∧ mm_Wp X 12 mm_r166 0 [some (.ref 114), some (.int n)] [] h1 (fun v2 h2 => v2 = some (.int x) ∧ pk_ok h2)) := by
  refine wp_s (i := .iload_n 1) (n := 1) (pc' := 1) (st' := [.int n]) rfl rfl ?_
  refine wp_if (t := 27) (st := []) rfl rfl (fun hc1 => ?_) (fun hc1 => ?_)
  · skip
    have q1 : (n).toInt < 0 := by have := mc_t_lt hc1; simpa using this
    show mm_Wp _ _ _ 27 _ _ _ _
    refine wp_s (i := .iconst (-1)) (n := 1) (pc' := 28) (st' := [.int (-1)]) rfl rfl ?_
    refine wp_r (i := .ireturn) (n := 1) (v := some (.int (-1))) rfl rfl ?_
    refine ⟨(-1), rfl, ⟨_, hb_114⟩, ?_⟩
    show mm_Wp X 12 mm_r166 0 [some (.ref 114), some (.int n)] [] _ _
    refine wp_s (i := .iload_n 1) (n := 1) (pc' := 1) (st' := [.int n]) rfl rfl ?_
    refine wp_s (i := .i2l) (n := 1) (pc' := 2) (st' := [.long ((n).toInt64)]) rfl rfl ?_
    refine wp_s (i := .lconst 0) (n := 1) (pc' := 3) (st' := [.long 0, .long ((n).toInt64)]) rfl rfl ?_
    refine wp_s (i := .aload_n 0) (n := 1) (pc' := 4) (st' := [.ref 114, .long 0, .long ((n).toInt64)]) rfl rfl ?_
    refine wp_gf (idx := 7) (a := 114) (v := .ref 115) (pc' := 7) rfl rfl hb_114 rfl rfl ?_
    refine wp_s (i := .bipush 73) (n := 2) (pc' := 9) (st' := [.int 73, .ref 115, .long 0, .long ((n).toInt64)]) rfl rfl ?_
    refine wp_ia (x := 0) (pc' := 10) rfl hb_115 rfl rfl rfl ?_
    refine wp_s (i := .iconst 1) (n := 1) (pc' := 11) (st' := [.int 1, .int 0, .long 0, .long ((n).toInt64)]) rfl rfl ?_
    refine wp_s (i := .isub) (n := 1) (pc' := 12) (st' := [.int (-1), .long 0, .long ((n).toInt64)]) rfl rfl ?_
    refine wp_s (i := .i2l) (n := 1) (pc' := 13) (st' := [.long (-1), .long 0, .long ((n).toInt64)]) rfl rfl ?_
    refine wp_c (i := .invokestatic 81) (n := 3) (Dq := 11) (r' := mm_r120) (as := [.long ((n).toInt64), .long 0, .long (-1)]) (rest := []) (ls' := [some (.long ((n).toInt64)), none, some (.long 0), none, some (.long (-1)), none]) rfl rfl rfl ?_
    refine wp_s (i := .lload_n 0) (n := 1) (pc' := 1) (st' := [.long ((n).toInt64)]) rfl rfl ?_
    refine wp_s (i := .lload_n 2) (n := 1) (pc' := 2) (st' := [.long 0, .long ((n).toInt64)]) rfl rfl ?_
    refine wp_s (i := .lcmp) (n := 1) (pc' := 3) (st' := [.int (lg_cmp ((n).toInt64) 0)]) rfl rfl ?_
    refine wp_if (t := 17) (st := []) rfl rfl (fun hc2 => ?_) (fun hc2 => ?_)
    · skip
      have q2 : (n).toInt < 0 := by have := lc_t_lt hc2; simpa using this
      show mm_Wp _ _ _ 17 _ _ _ _
      refine wp_s (i := .iconst 0) (n := 1) (pc' := 18) (st' := [.int 0]) rfl rfl ?_
      refine wp_r (i := .ireturn) (n := 1) (v := some (.int 0)) rfl rfl ?_
      show mm_Wp X 12 mm_r166 16 [some (.ref 114), some (.int n)] [.int 0] _ _
      refine wp_s (i := .ifCond .eq 15) (n := 3) (pc' := 31) (st' := []) rfl rfl ?_
      refine wp_s (i := .iconst (-1)) (n := 1) (pc' := 32) (st' := [.int (-1)]) rfl rfl ?_
      refine wp_r (i := .ireturn) (n := 1) (v := some (.int (-1))) rfl rfl ?_
      exact ⟨rfl, pk_ok0⟩
    · skip
      have q2 : (n).toInt ≥ 0 := by have := lc_f_lt hc2; simpa using this
      exfalso; omega
  · skip
    have q1 : (n).toInt ≥ 0 := by have := mc_f_lt hc1; simpa using this
    show mm_Wp _ _ _ 4 _ _ _ _
    refine wp_s (i := .iload_n 1) (n := 1) (pc' := 5) (st' := [.int n]) rfl rfl ?_
    refine wp_s (i := .aload_n 0) (n := 1) (pc' := 6) (st' := [.ref 0, .int n]) rfl rfl ?_
    refine wp_gf (idx := 31) (a := 0) (v := .ref 36) (pc' := 9) rfl rfl hb_0 rfl rfl ?_
    refine wp_gf (idx := 120) (a := 36) (v := .int 0) (pc' := 12) rfl rfl hb_36 rfl rfl ?_
    refine wp_ic (t := 27) (st := []) rfl rfl (fun hc3 => ?_) (fun hc3 => ?_)
    · skip
      have q3 : (n).toInt ≥ 0 := by have := mc_t_ge hc3; simpa using this
      show mm_Wp _ _ _ 27 _ _ _ _
      refine wp_s (i := .iconst (-1)) (n := 1) (pc' := 28) (st' := [.int (-1)]) rfl rfl ?_
      refine wp_r (i := .ireturn) (n := 1) (v := some (.int (-1))) rfl rfl ?_
      refine ⟨(-1), rfl, ⟨_, hb_114⟩, ?_⟩
      show mm_Wp X 12 mm_r166 0 [some (.ref 114), some (.int n)] [] _ _
      refine wp_s (i := .iload_n 1) (n := 1) (pc' := 1) (st' := [.int n]) rfl rfl ?_
      refine wp_s (i := .i2l) (n := 1) (pc' := 2) (st' := [.long ((n).toInt64)]) rfl rfl ?_
      refine wp_s (i := .lconst 0) (n := 1) (pc' := 3) (st' := [.long 0, .long ((n).toInt64)]) rfl rfl ?_
      refine wp_s (i := .aload_n 0) (n := 1) (pc' := 4) (st' := [.ref 114, .long 0, .long ((n).toInt64)]) rfl rfl ?_
      refine wp_gf (idx := 7) (a := 114) (v := .ref 115) (pc' := 7) rfl rfl hb_114 rfl rfl ?_
      refine wp_s (i := .bipush 73) (n := 2) (pc' := 9) (st' := [.int 73, .ref 115, .long 0, .long ((n).toInt64)]) rfl rfl ?_
      refine wp_ia (x := 0) (pc' := 10) rfl hb_115 rfl rfl rfl ?_
      refine wp_s (i := .iconst 1) (n := 1) (pc' := 11) (st' := [.int 1, .int 0, .long 0, .long ((n).toInt64)]) rfl rfl ?_
      refine wp_s (i := .isub) (n := 1) (pc' := 12) (st' := [.int (-1), .long 0, .long ((n).toInt64)]) rfl rfl ?_
      refine wp_s (i := .i2l) (n := 1) (pc' := 13) (st' := [.long (-1), .long 0, .long ((n).toInt64)]) rfl rfl ?_
      refine wp_c (i := .invokestatic 81) (n := 3) (Dq := 11) (r' := mm_r120) (as := [.long ((n).toInt64), .long 0, .long (-1)]) (rest := []) (ls' := [some (.long ((n).toInt64)), none, some (.long 0), none, some (.long (-1)), none]) rfl rfl rfl ?_
      refine wp_s (i := .lload_n 0) (n := 1) (pc' := 1) (st' := [.long ((n).toInt64)]) rfl rfl ?_
      refine wp_s (i := .lload_n 2) (n := 1) (pc' := 2) (st' := [.long 0, .long ((n).toInt64)]) rfl rfl ?_
      refine wp_s (i := .lcmp) (n := 1) (pc' := 3) (st' := [.int (lg_cmp ((n).toInt64) 0)]) rfl rfl ?_
      refine wp_if (t := 17) (st := []) rfl rfl (fun hc4 => ?_) (fun hc4 => ?_)
      · skip
        have q4 : (n).toInt < 0 := by have := lc_t_lt hc4; simpa using this
        exfalso; omega
      · skip
        have q4 : (n).toInt ≥ 0 := by have := lc_f_lt hc4; simpa using this
        show mm_Wp _ _ _ 6 _ _ _ _
        refine wp_s (i := .lload_n 0) (n := 1) (pc' := 7) (st' := [.long ((n).toInt64)]) rfl rfl ?_
        refine wp_s (i := .lload 4) (n := 2) (pc' := 9) (st' := [.long (-1), .long ((n).toInt64)]) rfl rfl ?_
        refine wp_s (i := .lcmp) (n := 1) (pc' := 10) (st' := [.int (lg_cmp ((n).toInt64) (-1))]) rfl rfl ?_
        refine wp_if (t := 17) (st := []) rfl rfl (fun hc5 => ?_) (fun hc5 => ?_)
        · skip
          have q5 : (n).toInt > -1 := by have := lc_t_gt hc5; simpa using this
          show mm_Wp _ _ _ 17 _ _ _ _
          refine wp_s (i := .iconst 0) (n := 1) (pc' := 18) (st' := [.int 0]) rfl rfl ?_
          refine wp_r (i := .ireturn) (n := 1) (v := some (.int 0)) rfl rfl ?_
          show mm_Wp X 12 mm_r166 16 [some (.ref 114), some (.int n)] [.int 0] _ _
          refine wp_s (i := .ifCond .eq 15) (n := 3) (pc' := 31) (st' := []) rfl rfl ?_
          refine wp_s (i := .iconst (-1)) (n := 1) (pc' := 32) (st' := [.int (-1)]) rfl rfl ?_
          refine wp_r (i := .ireturn) (n := 1) (v := some (.int (-1))) rfl rfl ?_
          exact ⟨rfl, pk_ok0⟩
        · skip
          have q5 : (n).toInt ≤ -1 := by have := lc_f_gt hc5; simpa using this
          exfalso; omega
    · skip
      have q3 : (n).toInt < 0 := by have := mc_f_ge hc3; simpa using this
      exfalso; omega
