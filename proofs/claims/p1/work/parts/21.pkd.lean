set_option maxRecDepth 20000 in
set_option maxHeartbeats 4000000 in
theorem pk_30 (X : Option (List Int32)) (n w u z : Int32) : mm_Wp X 12 mm_r95 0 [some (.ref 0), some (.int n), some (.int w), some (.int u), some (.int z), none, none, none, none] [] hp_0 (fun v1 h1 => ∃ x : Int32, v1 = some (.int x) ∧ (∃ fs, h1[114]? = some (.inr (10, fs))) ∧ mm_Wp X 12 mm_r183 0 [some (.ref 114), some (.int n), some (.int w), some (.int u), some (.int z), none, none, none, none] [] h1 (fun v2 h2 => v2 = some (.int x) ∧ pk_ok h2)) := by
  refine wp_s (i := .aload_n 0) (n := 1) (pc' := 1) (st' := [.ref 0]) rfl rfl ?_
  refine wp_s (i := .iload_n 1) (n := 1) (pc' := 2) (st' := [.int n, .ref 0]) rfl rfl ?_
  refine wp_c (i := .invokevirtual 220) (n := 3) (Dq := 11) (r' := mm_r105) (as := [.ref 0, .int n]) (rest := []) (ls' := [some (.ref 0), some (.int n)]) rfl rfl rfl ?_
  refine wp_s (i := .iload_n 1) (n := 1) (pc' := 1) (st' := [.int n]) rfl rfl ?_
  refine wp_if (t := 19) (st := []) rfl rfl (fun hc1 => ?_) (fun hc1 => ?_)
  · skip
    have q1 : (n).toInt < 0 := by have := mc_t_lt hc1; simpa using this
    show mm_Wp _ _ _ 19 _ _ _ _
    refine wp_s (i := .iconst 0) (n := 1) (pc' := 20) (st' := [.int 0]) rfl rfl ?_
    refine wp_r (i := .ireturn) (n := 1) (v := some (.int 0)) rfl rfl ?_
    show mm_Wp X 12 mm_r95 5 [some (.ref 0), some (.int n), some (.int w), some (.int u), some (.int z), none, none, none, none] [.int 0] _ _
    refine wp_s (i := .ifCond .eq 25) (n := 3) (pc' := 30) (st' := []) rfl rfl ?_
    refine wp_s (i := .iconst (-1)) (n := 1) (pc' := 31) (st' := [.int (-1)]) rfl rfl ?_
    refine wp_r (i := .ireturn) (n := 1) (v := some (.int (-1))) rfl rfl ?_
    refine ⟨(-1), rfl, ⟨_, hb_114⟩, ?_⟩
    show mm_Wp X 12 mm_r183 0 [some (.ref 114), some (.int n), some (.int w), some (.int u), some (.int z), none, none, none, none] [] _ _
    refine wp_s (i := .aload_n 0) (n := 1) (pc' := 1) (st' := [.ref 114]) rfl rfl ?_
    refine wp_s (i := .iload_n 1) (n := 1) (pc' := 2) (st' := [.int n, .ref 114]) rfl rfl ?_
    refine wp_c (i := .invokevirtual 243) (n := 3) (Dq := 11) (r' := mm_r140) (as := [.ref 114, .int n]) (rest := []) (ls' := [some (.ref 114), some (.int n)]) rfl rfl rfl ?_
    refine wp_s (i := .iload_n 1) (n := 1) (pc' := 1) (st' := [.int n]) rfl rfl ?_
    refine wp_s (i := .i2l) (n := 1) (pc' := 2) (st' := [.long ((n).toInt64)]) rfl rfl ?_
    refine wp_s (i := .lconst 0) (n := 1) (pc' := 3) (st' := [.long 0, .long ((n).toInt64)]) rfl rfl ?_
    refine wp_s (i := .aload_n 0) (n := 1) (pc' := 4) (st' := [.ref 114, .long 0, .long ((n).toInt64)]) rfl rfl ?_
    refine wp_gf (idx := 173) (a := 114) (v := .int 0) (pc' := 7) rfl rfl hb_114 rfl rfl ?_
    refine wp_s (i := .iconst 1) (n := 1) (pc' := 8) (st' := [.int 1, .int 0, .long 0, .long ((n).toInt64)]) rfl rfl ?_
    refine wp_s (i := .isub) (n := 1) (pc' := 9) (st' := [.int (-1), .long 0, .long ((n).toInt64)]) rfl rfl ?_
    refine wp_s (i := .i2l) (n := 1) (pc' := 10) (st' := [.long (-1), .long 0, .long ((n).toInt64)]) rfl rfl ?_
    refine wp_c (i := .invokestatic 81) (n := 3) (Dq := 10) (r' := mm_r120) (as := [.long ((n).toInt64), .long 0, .long (-1)]) (rest := []) (ls' := [some (.long ((n).toInt64)), none, some (.long 0), none, some (.long (-1)), none]) rfl rfl rfl ?_
    refine wp_s (i := .lload_n 0) (n := 1) (pc' := 1) (st' := [.long ((n).toInt64)]) rfl rfl ?_
    refine wp_s (i := .lload_n 2) (n := 1) (pc' := 2) (st' := [.long 0, .long ((n).toInt64)]) rfl rfl ?_
    refine wp_s (i := .lcmp) (n := 1) (pc' := 3) (st' := [.int (lg_cmp ((n).toInt64) 0)]) rfl rfl ?_
    refine wp_if (t := 17) (st := []) rfl rfl (fun hc2 => ?_) (fun hc2 => ?_)
    · skip
      have q2 : (n).toInt < 0 := by have := lc_t_lt hc2; simpa using this
      show mm_Wp _ _ _ 17 _ _ _ _
      refine wp_s (i := .iconst 0) (n := 1) (pc' := 18) (st' := [.int 0]) rfl rfl ?_
      refine wp_r (i := .ireturn) (n := 1) (v := some (.int 0)) rfl rfl ?_
      show mm_Wp X 11 mm_r140 13 [some (.ref 114), some (.int n)] [.int 0] _ _
      refine wp_r (i := .ireturn) (n := 1) (v := some (.int 0)) rfl rfl ?_
      show mm_Wp X 12 mm_r183 5 [some (.ref 114), some (.int n), some (.int w), some (.int u), some (.int z), none, none, none, none] [.int 0] _ _
      refine wp_s (i := .ifCond .eq 27) (n := 3) (pc' := 32) (st' := []) rfl rfl ?_
      refine wp_s (i := .iconst (-1)) (n := 1) (pc' := 33) (st' := [.int (-1)]) rfl rfl ?_
      refine wp_r (i := .ireturn) (n := 1) (v := some (.int (-1))) rfl rfl ?_
      exact ⟨rfl, pk_ok0⟩
    · skip
      have q2 : (n).toInt ≥ 0 := by have := lc_f_lt hc2; simpa using this
      exfalso; omega
  · skip
    have q1 : (n).toInt ≥ 0 := by have := mc_f_lt hc1; simpa using this
    show mm_Wp _ _ _ 4 _ _ _ _
    refine wp_s (i := .iload_n 1) (n := 1) (pc' := 5) (st' := [.int n]) rfl rfl ?_
    refine wp_s (i := .aload_n 0) (n := 1) (pc' := 6) (st' := [.ref 0, .int n]) rfl rfl ?_
    refine wp_gf (idx := 24) (a := 0) (v := .ref 25) (pc' := 9) rfl rfl hb_0 rfl rfl ?_
    refine wp_gf (idx := 117) (a := 25) (v := .int 0) (pc' := 12) rfl rfl hb_25 rfl rfl ?_
    refine wp_ic (t := 19) (st := []) rfl rfl (fun hc3 => ?_) (fun hc3 => ?_)
    · skip
      have q3 : (n).toInt ≥ 0 := by have := mc_t_ge hc3; simpa using this
      show mm_Wp _ _ _ 19 _ _ _ _
      refine wp_s (i := .iconst 0) (n := 1) (pc' := 20) (st' := [.int 0]) rfl rfl ?_
      refine wp_r (i := .ireturn) (n := 1) (v := some (.int 0)) rfl rfl ?_
      show mm_Wp X 12 mm_r95 5 [some (.ref 0), some (.int n), some (.int w), some (.int u), some (.int z), none, none, none, none] [.int 0] _ _
      refine wp_s (i := .ifCond .eq 25) (n := 3) (pc' := 30) (st' := []) rfl rfl ?_
      refine wp_s (i := .iconst (-1)) (n := 1) (pc' := 31) (st' := [.int (-1)]) rfl rfl ?_
      refine wp_r (i := .ireturn) (n := 1) (v := some (.int (-1))) rfl rfl ?_
      refine ⟨(-1), rfl, ⟨_, hb_114⟩, ?_⟩
      show mm_Wp X 12 mm_r183 0 [some (.ref 114), some (.int n), some (.int w), some (.int u), some (.int z), none, none, none, none] [] _ _
      refine wp_s (i := .aload_n 0) (n := 1) (pc' := 1) (st' := [.ref 114]) rfl rfl ?_
      refine wp_s (i := .iload_n 1) (n := 1) (pc' := 2) (st' := [.int n, .ref 114]) rfl rfl ?_
      refine wp_c (i := .invokevirtual 243) (n := 3) (Dq := 11) (r' := mm_r140) (as := [.ref 114, .int n]) (rest := []) (ls' := [some (.ref 114), some (.int n)]) rfl rfl rfl ?_
      refine wp_s (i := .iload_n 1) (n := 1) (pc' := 1) (st' := [.int n]) rfl rfl ?_
      refine wp_s (i := .i2l) (n := 1) (pc' := 2) (st' := [.long ((n).toInt64)]) rfl rfl ?_
      refine wp_s (i := .lconst 0) (n := 1) (pc' := 3) (st' := [.long 0, .long ((n).toInt64)]) rfl rfl ?_
      refine wp_s (i := .aload_n 0) (n := 1) (pc' := 4) (st' := [.ref 114, .long 0, .long ((n).toInt64)]) rfl rfl ?_
      refine wp_gf (idx := 173) (a := 114) (v := .int 0) (pc' := 7) rfl rfl hb_114 rfl rfl ?_
      refine wp_s (i := .iconst 1) (n := 1) (pc' := 8) (st' := [.int 1, .int 0, .long 0, .long ((n).toInt64)]) rfl rfl ?_
      refine wp_s (i := .isub) (n := 1) (pc' := 9) (st' := [.int (-1), .long 0, .long ((n).toInt64)]) rfl rfl ?_
      refine wp_s (i := .i2l) (n := 1) (pc' := 10) (st' := [.long (-1), .long 0, .long ((n).toInt64)]) rfl rfl ?_
      refine wp_c (i := .invokestatic 81) (n := 3) (Dq := 10) (r' := mm_r120) (as := [.long ((n).toInt64), .long 0, .long (-1)]) (rest := []) (ls' := [some (.long ((n).toInt64)), none, some (.long 0), none, some (.long (-1)), none]) rfl rfl rfl ?_
      refine wp_s (i := .lload_n 0) (n := 1) (pc' := 1) (st' := [.long ((n).toInt64)]) rfl rfl ?_
      refine wp_s (i := .lload_n 2) (n := 1) (pc' := 2) (st' := [.long 0, .long ((n).toInt64)]) rfl rfl ?_
      refine wp_s (i := .lcmp) (n := 1) (pc' := 3) (st' := [.int (lg_cmp ((n).toInt64) 0)]) rfl rfl ?_
      refine wp_if (t := 17) (st := []) rfl rfl (fun hc4 => ?_) (fun hc4 => ?_)
      · skip
        have q4 : (n).toInt < 0 := by have := lc_t_lt hc4; simpa using this
        exfalso; omega
      · skip
        have q4 : (n).toInt ≥ 0 := by have := lc_f_lt hc4; simpa using this
        show mm_Wp _ _ _ 6 _ _ _ _
        refine wp_s (i := .lload_n 0) (n := 1) (pc' := 7) (st' := [.long ((n).toInt64)]) rfl rfl ?_
        refine wp_s (i := .lload 4) (n := 2) (pc' := 9) (st' := [.long (-1), .long ((n).toInt64)]) rfl rfl ?_
        refine wp_s (i := .lcmp) (n := 1) (pc' := 10) (st' := [.int (lg_cmp ((n).toInt64) (-1))]) rfl rfl ?_
        refine wp_if (t := 17) (st := []) rfl rfl (fun hc5 => ?_) (fun hc5 => ?_)
        · skip
          have q5 : (n).toInt > -1 := by have := lc_t_gt hc5; simpa using this
          show mm_Wp _ _ _ 17 _ _ _ _
          refine wp_s (i := .iconst 0) (n := 1) (pc' := 18) (st' := [.int 0]) rfl rfl ?_
          refine wp_r (i := .ireturn) (n := 1) (v := some (.int 0)) rfl rfl ?_
          show mm_Wp X 11 mm_r140 13 [some (.ref 114), some (.int n)] [.int 0] _ _
          refine wp_r (i := .ireturn) (n := 1) (v := some (.int 0)) rfl rfl ?_
          show mm_Wp X 12 mm_r183 5 [some (.ref 114), some (.int n), some (.int w), some (.int u), some (.int z), none, none, none, none] [.int 0] _ _
          refine wp_s (i := .ifCond .eq 27) (n := 3) (pc' := 32) (st' := []) rfl rfl ?_
          refine wp_s (i := .iconst (-1)) (n := 1) (pc' := 33) (st' := [.int (-1)]) rfl rfl ?_
          refine wp_r (i := .ireturn) (n := 1) (v := some (.int (-1))) rfl rfl ?_
          exact ⟨rfl, pk_ok0⟩
        · skip
          have q5 : (n).toInt ≤ -1 := by have := lc_f_gt hc5; simpa using this
          exfalso; omega
    · skip
      have q3 : (n).toInt < 0 := by have := mc_f_ge hc3; simpa using this
      exfalso; omega
set_option maxRecDepth 20000 in
set_option maxHeartbeats 4000000 in
theorem pk_31_0 (X : Option (List Int32))  : mm_Wp X 12 mm_r96 0 [some (.ref 0), some (.int 0), none, none] [] hp_0 (fun v1 h1 => ∃ x : Int32, v1 = some (.int x) ∧ (∃ fs, h1[114]? = some (.inr (10, fs))) ∧ mm_Wp X 12 mm_r185 0 [some (.ref 114), some (.int 0), none] [] h1 (fun v2 h2 => v2 = some (.int x) ∧ pk_ok h2)) := by
  refine wp_x 203 (v := some (.int 0)) (h' := hp_0.set 68 (.inr (3, [.ref 69, .ref 79, .int 1]))) (mm_dec (by decide +kernel)) ?_
  refine ⟨0, rfl, ⟨_, (mm_sn rfl hb_114)⟩, ?_⟩
  show mm_Wp X 12 mm_r185 0 [some (.ref 114), some (.int 0), none] [] _ _
  refine wp_x 2430 (v := some (.int 0)) (h' := (hp_0.set 68 (.inr (3, [.ref 69, .ref 79, .int 1]))).set 133 (.inl (3, .inl [1, 0]))) (mm_dec (by decide +kernel)) ?_
  exact ⟨rfl, (pk_okS (pk_okS pk_ok0 hb_68 rfl) (mm_sn rfl hb_133) rfl)⟩
set_option maxRecDepth 20000 in
set_option maxHeartbeats 4000000 in
theorem pk_31_1 (X : Option (List Int32))  : mm_Wp X 12 mm_r96 0 [some (.ref 0), some (.int 1), none, none] [] hp_0 (fun v1 h1 => ∃ x : Int32, v1 = some (.int x) ∧ (∃ fs, h1[114]? = some (.inr (10, fs))) ∧ mm_Wp X 12 mm_r185 0 [some (.ref 114), some (.int 1), none] [] h1 (fun v2 h2 => v2 = some (.int x) ∧ pk_ok h2)) := by
  refine wp_x 203 (v := some (.int 0)) (h' := hp_0.set 87 (.inr (3, [.ref 88, .ref 98, .int 1]))) (mm_dec (by decide +kernel)) ?_
  refine ⟨0, rfl, ⟨_, (mm_sn rfl hb_114)⟩, ?_⟩
  show mm_Wp X 12 mm_r185 0 [some (.ref 114), some (.int 1), none] [] _ _
  refine wp_x 2430 (v := some (.int 0)) (h' := (hp_0.set 87 (.inr (3, [.ref 88, .ref 98, .int 1]))).set 133 (.inl (3, .inl [0, 1]))) (mm_dec (by decide +kernel)) ?_
  exact ⟨rfl, (pk_okS (pk_okS pk_ok0 hb_87 rfl) (mm_sn rfl hb_133) rfl)⟩
set_option maxRecDepth 20000 in
set_option maxHeartbeats 4000000 in
theorem pk_31_o (X : Option (List Int32)) (n : Int32) (he0 : ¬ n = 0) (he1 : ¬ n = 1) : mm_Wp X 12 mm_r96 0 [some (.ref 0), some (.int n), none, none] [] hp_0 (fun v1 h1 => ∃ x : Int32, v1 = some (.int x) ∧ (∃ fs, h1[114]? = some (.inr (10, fs))) ∧ mm_Wp X 12 mm_r185 0 [some (.ref 114), some (.int n), none] [] h1 (fun v2 h2 => v2 = some (.int x) ∧ pk_ok h2)) := by
  have hf0 : n.toInt ≠ 0 := fun q => he0 (Int32.toInt_inj.mp (by rw [q]; rfl))
  have hf1 : n.toInt ≠ 1 := fun q => he1 (Int32.toInt_inj.mp (by rw [q]; rfl))
  refine wp_s (i := .iload_n 1) (n := 1) (pc' := 1) (st' := [.int n]) rfl rfl ?_
  refine wp_c (i := .invokestatic 289) (n := 3) (Dq := 11) (r' := mm_r106) (as := [.int n]) (rest := []) (ls' := [some (.int n)]) rfl rfl rfl ?_
  refine wp_s (i := .iload_n 0) (n := 1) (pc' := 1) (st' := [.int n]) rfl rfl ?_
  refine wp_if (t := 13) (st := []) rfl rfl (fun hc1 => ?_) (fun hc1 => ?_)
  · skip
    have q1 : (n).toInt < 0 := by have := mc_t_lt hc1; simpa using this
    show mm_Wp _ _ _ 13 _ _ _ _
    refine wp_s (i := .iconst 0) (n := 1) (pc' := 14) (st' := [.int 0]) rfl rfl ?_
    refine wp_r (i := .ireturn) (n := 1) (v := some (.int 0)) rfl rfl ?_
    show mm_Wp X 12 mm_r96 4 [some (.ref 0), some (.int n), none, none] [.int 0] _ _
    refine wp_s (i := .ifCond .ne 5) (n := 3) (pc' := 7) (st' := []) rfl rfl ?_
    refine wp_s (i := .iconst (-1)) (n := 1) (pc' := 8) (st' := [.int (-1)]) rfl rfl ?_
    refine wp_r (i := .ireturn) (n := 1) (v := some (.int (-1))) rfl rfl ?_
    refine ⟨(-1), rfl, ⟨_, hb_114⟩, ?_⟩
    show mm_Wp X 12 mm_r185 0 [some (.ref 114), some (.int n), none] [] _ _
    refine wp_s (i := .iload_n 1) (n := 1) (pc' := 1) (st' := [.int n]) rfl rfl ?_
    refine wp_s (i := .i2l) (n := 1) (pc' := 2) (st' := [.long ((n).toInt64)]) rfl rfl ?_
    refine wp_s (i := .lconst 0) (n := 1) (pc' := 3) (st' := [.long 0, .long ((n).toInt64)]) rfl rfl ?_
    refine wp_s (i := .lconst 1) (n := 1) (pc' := 4) (st' := [.long 1, .long 0, .long ((n).toInt64)]) rfl rfl ?_
    refine wp_c (i := .invokestatic 81) (n := 3) (Dq := 11) (r' := mm_r120) (as := [.long ((n).toInt64), .long 0, .long 1]) (rest := []) (ls' := [some (.long ((n).toInt64)), none, some (.long 0), none, some (.long 1), none]) rfl rfl rfl ?_
    refine wp_s (i := .lload_n 0) (n := 1) (pc' := 1) (st' := [.long ((n).toInt64)]) rfl rfl ?_
    refine wp_s (i := .lload_n 2) (n := 1) (pc' := 2) (st' := [.long 0, .long ((n).toInt64)]) rfl rfl ?_
    refine wp_s (i := .lcmp) (n := 1) (pc' := 3) (st' := [.int (lg_cmp ((n).toInt64) 0)]) rfl rfl ?_
    refine wp_if (t := 17) (st := []) rfl rfl (fun hc2 => ?_) (fun hc2 => ?_)
    · skip
      have q2 : (n).toInt < 0 := by have := lc_t_lt hc2; simpa using this
      show mm_Wp _ _ _ 17 _ _ _ _
      refine wp_s (i := .iconst 0) (n := 1) (pc' := 18) (st' := [.int 0]) rfl rfl ?_
      refine wp_r (i := .ireturn) (n := 1) (v := some (.int 0)) rfl rfl ?_
      show mm_Wp X 12 mm_r185 7 [some (.ref 114), some (.int n), none] [.int 0] _ _
      refine wp_s (i := .ifCond .ne 5) (n := 3) (pc' := 10) (st' := []) rfl rfl ?_
      refine wp_s (i := .iconst (-1)) (n := 1) (pc' := 11) (st' := [.int (-1)]) rfl rfl ?_
      refine wp_r (i := .ireturn) (n := 1) (v := some (.int (-1))) rfl rfl ?_
      exact ⟨rfl, pk_ok0⟩
    · skip
      have q2 : (n).toInt ≥ 0 := by have := lc_f_lt hc2; simpa using this
      exfalso; omega
  · skip
    have q1 : (n).toInt ≥ 0 := by have := mc_f_lt hc1; simpa using this
    show mm_Wp _ _ _ 4 _ _ _ _
    refine wp_s (i := .iload_n 0) (n := 1) (pc' := 5) (st' := [.int n]) rfl rfl ?_
    refine wp_s (i := .iconst 2) (n := 1) (pc' := 6) (st' := [.int 2, .int n]) rfl rfl ?_
    refine wp_ic (t := 13) (st := []) rfl rfl (fun hc3 => ?_) (fun hc3 => ?_)
    · skip
      have q3 : (n).toInt ≥ 2 := by have := mc_t_ge hc3; simpa using this
      show mm_Wp _ _ _ 13 _ _ _ _
      refine wp_s (i := .iconst 0) (n := 1) (pc' := 14) (st' := [.int 0]) rfl rfl ?_
      refine wp_r (i := .ireturn) (n := 1) (v := some (.int 0)) rfl rfl ?_
      show mm_Wp X 12 mm_r96 4 [some (.ref 0), some (.int n), none, none] [.int 0] _ _
      refine wp_s (i := .ifCond .ne 5) (n := 3) (pc' := 7) (st' := []) rfl rfl ?_
      refine wp_s (i := .iconst (-1)) (n := 1) (pc' := 8) (st' := [.int (-1)]) rfl rfl ?_
      refine wp_r (i := .ireturn) (n := 1) (v := some (.int (-1))) rfl rfl ?_
      refine ⟨(-1), rfl, ⟨_, hb_114⟩, ?_⟩
      show mm_Wp X 12 mm_r185 0 [some (.ref 114), some (.int n), none] [] _ _
      refine wp_s (i := .iload_n 1) (n := 1) (pc' := 1) (st' := [.int n]) rfl rfl ?_
      refine wp_s (i := .i2l) (n := 1) (pc' := 2) (st' := [.long ((n).toInt64)]) rfl rfl ?_
      refine wp_s (i := .lconst 0) (n := 1) (pc' := 3) (st' := [.long 0, .long ((n).toInt64)]) rfl rfl ?_
      refine wp_s (i := .lconst 1) (n := 1) (pc' := 4) (st' := [.long 1, .long 0, .long ((n).toInt64)]) rfl rfl ?_
      refine wp_c (i := .invokestatic 81) (n := 3) (Dq := 11) (r' := mm_r120) (as := [.long ((n).toInt64), .long 0, .long 1]) (rest := []) (ls' := [some (.long ((n).toInt64)), none, some (.long 0), none, some (.long 1), none]) rfl rfl rfl ?_
      refine wp_s (i := .lload_n 0) (n := 1) (pc' := 1) (st' := [.long ((n).toInt64)]) rfl rfl ?_
      refine wp_s (i := .lload_n 2) (n := 1) (pc' := 2) (st' := [.long 0, .long ((n).toInt64)]) rfl rfl ?_
      refine wp_s (i := .lcmp) (n := 1) (pc' := 3) (st' := [.int (lg_cmp ((n).toInt64) 0)]) rfl rfl ?_
      refine wp_if (t := 17) (st := []) rfl rfl (fun hc4 => ?_) (fun hc4 => ?_)
      · skip
        have q4 : (n).toInt < 0 := by have := lc_t_lt hc4; simpa using this
        exfalso; omega
      · skip
        have q4 : (n).toInt ≥ 0 := by have := lc_f_lt hc4; simpa using this
        show mm_Wp _ _ _ 6 _ _ _ _
        refine wp_s (i := .lload_n 0) (n := 1) (pc' := 7) (st' := [.long ((n).toInt64)]) rfl rfl ?_
        refine wp_s (i := .lload 4) (n := 2) (pc' := 9) (st' := [.long 1, .long ((n).toInt64)]) rfl rfl ?_
        refine wp_s (i := .lcmp) (n := 1) (pc' := 10) (st' := [.int (lg_cmp ((n).toInt64) 1)]) rfl rfl ?_
        refine wp_if (t := 17) (st := []) rfl rfl (fun hc5 => ?_) (fun hc5 => ?_)
        · skip
          have q5 : (n).toInt > 1 := by have := lc_t_gt hc5; simpa using this
          show mm_Wp _ _ _ 17 _ _ _ _
          refine wp_s (i := .iconst 0) (n := 1) (pc' := 18) (st' := [.int 0]) rfl rfl ?_
          refine wp_r (i := .ireturn) (n := 1) (v := some (.int 0)) rfl rfl ?_
          show mm_Wp X 12 mm_r185 7 [some (.ref 114), some (.int n), none] [.int 0] _ _
          refine wp_s (i := .ifCond .ne 5) (n := 3) (pc' := 10) (st' := []) rfl rfl ?_
          refine wp_s (i := .iconst (-1)) (n := 1) (pc' := 11) (st' := [.int (-1)]) rfl rfl ?_
          refine wp_r (i := .ireturn) (n := 1) (v := some (.int (-1))) rfl rfl ?_
          exact ⟨rfl, pk_ok0⟩
        · skip
          have q5 : (n).toInt ≤ 1 := by have := lc_f_gt hc5; simpa using this
          exfalso; omega
    · skip
      have q3 : (n).toInt < 2 := by have := mc_f_ge hc3; simpa using this
      exfalso; omega
theorem pk_31 (X : Option (List Int32)) (n : Int32) : mm_Wp X 12 mm_r96 0 [some (.ref 0), some (.int n), none, none] [] hp_0 (fun v1 h1 => ∃ x : Int32, v1 = some (.int x) ∧ (∃ fs, h1[114]? = some (.inr (10, fs))) ∧ mm_Wp X 12 mm_r185 0 [some (.ref 114), some (.int n), none] [] h1 (fun v2 h2 => v2 = some (.int x) ∧ pk_ok h2)) := by
  by_cases he0 : n = 0
  · subst he0; exact pk_31_0 X 
  by_cases he1 : n = 1
  · subst he1; exact pk_31_1 X 
  exact pk_31_o X n he0 he1
set_option maxRecDepth 20000 in
set_option maxHeartbeats 4000000 in
theorem pk_32_0 (X : Option (List Int32))  : mm_Wp X 12 mm_r97 0 [some (.ref 0), some (.int 0), none] [] hp_0 (fun v1 h1 => ∃ x : Int32, v1 = some (.int x) ∧ (∃ fs, h1[114]? = some (.inr (10, fs))) ∧ mm_Wp X 12 mm_r186 0 [some (.ref 114), some (.int 0)] [] h1 (fun v2 h2 => v2 = some (.int x) ∧ pk_ok h2)) := by
  refine wp_x 26 (v := some (.int (-2))) (h' := hp_0) (mm_dec (by decide +kernel)) ?_
  refine ⟨(-2), rfl, ⟨_, hb_114⟩, ?_⟩
  show mm_Wp X 12 mm_r186 0 [some (.ref 114), some (.int 0)] [] _ _
  refine wp_x 29 (v := some (.int (-2))) (h' := hp_0) (mm_dec (by decide +kernel)) ?_
  exact ⟨rfl, pk_ok0⟩
set_option maxRecDepth 20000 in
set_option maxHeartbeats 4000000 in
theorem pk_32_1 (X : Option (List Int32))  : mm_Wp X 12 mm_r97 0 [some (.ref 0), some (.int 1), none] [] hp_0 (fun v1 h1 => ∃ x : Int32, v1 = some (.int x) ∧ (∃ fs, h1[114]? = some (.inr (10, fs))) ∧ mm_Wp X 12 mm_r186 0 [some (.ref 114), some (.int 1)] [] h1 (fun v2 h2 => v2 = some (.int x) ∧ pk_ok h2)) := by
  refine wp_x 26 (v := some (.int (-2))) (h' := hp_0) (mm_dec (by decide +kernel)) ?_
  refine ⟨(-2), rfl, ⟨_, hb_114⟩, ?_⟩
  show mm_Wp X 12 mm_r186 0 [some (.ref 114), some (.int 1)] [] _ _
  refine wp_x 29 (v := some (.int (-2))) (h' := hp_0) (mm_dec (by decide +kernel)) ?_
  exact ⟨rfl, pk_ok0⟩
set_option maxRecDepth 20000 in
set_option maxHeartbeats 4000000 in
theorem pk_32_o (X : Option (List Int32)) (n : Int32) (he0 : ¬ n = 0) (he1 : ¬ n = 1) : mm_Wp X 12 mm_r97 0 [some (.ref 0), some (.int n), none] [] hp_0 (fun v1 h1 => ∃ x : Int32, v1 = some (.int x) ∧ (∃ fs, h1[114]? = some (.inr (10, fs))) ∧ mm_Wp X 12 mm_r186 0 [some (.ref 114), some (.int n)] [] h1 (fun v2 h2 => v2 = some (.int x) ∧ pk_ok h2)) := by
  have hf0 : n.toInt ≠ 0 := fun q => he0 (Int32.toInt_inj.mp (by rw [q]; rfl))
  have hf1 : n.toInt ≠ 1 := fun q => he1 (Int32.toInt_inj.mp (by rw [q]; rfl))
  refine wp_s (i := .iload_n 1) (n := 1) (pc' := 1) (st' := [.int n]) rfl rfl ?_
  refine wp_c (i := .invokestatic 289) (n := 3) (Dq := 11) (r' := mm_r106) (as := [.int n]) (rest := []) (ls' := [some (.int n)]) rfl rfl rfl ?_
  refine wp_s (i := .iload_n 0) (n := 1) (pc' := 1) (st' := [.int n]) rfl rfl ?_
  refine wp_if (t := 13) (st := []) rfl rfl (fun hc1 => ?_) (fun hc1 => ?_)
  · skip
    have q1 : (n).toInt < 0 := by have := mc_t_lt hc1; simpa using this
    show mm_Wp _ _ _ 13 _ _ _ _
    refine wp_s (i := .iconst 0) (n := 1) (pc' := 14) (st' := [.int 0]) rfl rfl ?_
    refine wp_r (i := .ireturn) (n := 1) (v := some (.int 0)) rfl rfl ?_
    show mm_Wp X 12 mm_r97 4 [some (.ref 0), some (.int n), none] [.int 0] _ _
    refine wp_s (i := .ifCond .ne 5) (n := 3) (pc' := 7) (st' := []) rfl rfl ?_
    refine wp_s (i := .iconst (-1)) (n := 1) (pc' := 8) (st' := [.int (-1)]) rfl rfl ?_
    refine wp_r (i := .ireturn) (n := 1) (v := some (.int (-1))) rfl rfl ?_
    refine ⟨(-1), rfl, ⟨_, hb_114⟩, ?_⟩
    show mm_Wp X 12 mm_r186 0 [some (.ref 114), some (.int n)] [] _ _
    refine wp_s (i := .iload_n 1) (n := 1) (pc' := 1) (st' := [.int n]) rfl rfl ?_
    refine wp_s (i := .i2l) (n := 1) (pc' := 2) (st' := [.long ((n).toInt64)]) rfl rfl ?_
    refine wp_s (i := .lconst 0) (n := 1) (pc' := 3) (st' := [.long 0, .long ((n).toInt64)]) rfl rfl ?_
    refine wp_s (i := .lconst 1) (n := 1) (pc' := 4) (st' := [.long 1, .long 0, .long ((n).toInt64)]) rfl rfl ?_
    refine wp_c (i := .invokestatic 81) (n := 3) (Dq := 11) (r' := mm_r120) (as := [.long ((n).toInt64), .long 0, .long 1]) (rest := []) (ls' := [some (.long ((n).toInt64)), none, some (.long 0), none, some (.long 1), none]) rfl rfl rfl ?_
    refine wp_s (i := .lload_n 0) (n := 1) (pc' := 1) (st' := [.long ((n).toInt64)]) rfl rfl ?_
    refine wp_s (i := .lload_n 2) (n := 1) (pc' := 2) (st' := [.long 0, .long ((n).toInt64)]) rfl rfl ?_
    refine wp_s (i := .lcmp) (n := 1) (pc' := 3) (st' := [.int (lg_cmp ((n).toInt64) 0)]) rfl rfl ?_
    refine wp_if (t := 17) (st := []) rfl rfl (fun hc2 => ?_) (fun hc2 => ?_)
    · skip
      have q2 : (n).toInt < 0 := by have := lc_t_lt hc2; simpa using this
      show mm_Wp _ _ _ 17 _ _ _ _
      refine wp_s (i := .iconst 0) (n := 1) (pc' := 18) (st' := [.int 0]) rfl rfl ?_
      refine wp_r (i := .ireturn) (n := 1) (v := some (.int 0)) rfl rfl ?_
      show mm_Wp X 12 mm_r186 7 [some (.ref 114), some (.int n)] [.int 0] _ _
      refine wp_s (i := .ifCond .ne 5) (n := 3) (pc' := 10) (st' := []) rfl rfl ?_
      refine wp_s (i := .iconst (-1)) (n := 1) (pc' := 11) (st' := [.int (-1)]) rfl rfl ?_
      refine wp_r (i := .ireturn) (n := 1) (v := some (.int (-1))) rfl rfl ?_
      exact ⟨rfl, pk_ok0⟩
    · skip
      have q2 : (n).toInt ≥ 0 := by have := lc_f_lt hc2; simpa using this
      exfalso; omega
  · skip
    have q1 : (n).toInt ≥ 0 := by have := mc_f_lt hc1; simpa using this
    show mm_Wp _ _ _ 4 _ _ _ _
    refine wp_s (i := .iload_n 0) (n := 1) (pc' := 5) (st' := [.int n]) rfl rfl ?_
    refine wp_s (i := .iconst 2) (n := 1) (pc' := 6) (st' := [.int 2, .int n]) rfl rfl ?_
    refine wp_ic (t := 13) (st := []) rfl rfl (fun hc3 => ?_) (fun hc3 => ?_)
    · skip
      have q3 : (n).toInt ≥ 2 := by have := mc_t_ge hc3; simpa using this
      show mm_Wp _ _ _ 13 _ _ _ _
      refine wp_s (i := .iconst 0) (n := 1) (pc' := 14) (st' := [.int 0]) rfl rfl ?_
      refine wp_r (i := .ireturn) (n := 1) (v := some (.int 0)) rfl rfl ?_
      show mm_Wp X 12 mm_r97 4 [some (.ref 0), some (.int n), none] [.int 0] _ _
      refine wp_s (i := .ifCond .ne 5) (n := 3) (pc' := 7) (st' := []) rfl rfl ?_
      refine wp_s (i := .iconst (-1)) (n := 1) (pc' := 8) (st' := [.int (-1)]) rfl rfl ?_
      refine wp_r (i := .ireturn) (n := 1) (v := some (.int (-1))) rfl rfl ?_
      refine ⟨(-1), rfl, ⟨_, hb_114⟩, ?_⟩
      show mm_Wp X 12 mm_r186 0 [some (.ref 114), some (.int n)] [] _ _
      refine wp_s (i := .iload_n 1) (n := 1) (pc' := 1) (st' := [.int n]) rfl rfl ?_
      refine wp_s (i := .i2l) (n := 1) (pc' := 2) (st' := [.long ((n).toInt64)]) rfl rfl ?_
      refine wp_s (i := .lconst 0) (n := 1) (pc' := 3) (st' := [.long 0, .long ((n).toInt64)]) rfl rfl ?_
      refine wp_s (i := .lconst 1) (n := 1) (pc' := 4) (st' := [.long 1, .long 0, .long ((n).toInt64)]) rfl rfl ?_
      refine wp_c (i := .invokestatic 81) (n := 3) (Dq := 11) (r' := mm_r120) (as := [.long ((n).toInt64), .long 0, .long 1]) (rest := []) (ls' := [some (.long ((n).toInt64)), none, some (.long 0), none, some (.long 1), none]) rfl rfl rfl ?_
      refine wp_s (i := .lload_n 0) (n := 1) (pc' := 1) (st' := [.long ((n).toInt64)]) rfl rfl ?_
      refine wp_s (i := .lload_n 2) (n := 1) (pc' := 2) (st' := [.long 0, .long ((n).toInt64)]) rfl rfl ?_
      refine wp_s (i := .lcmp) (n := 1) (pc' := 3) (st' := [.int (lg_cmp ((n).toInt64) 0)]) rfl rfl ?_
      refine wp_if (t := 17) (st := []) rfl rfl (fun hc4 => ?_) (fun hc4 => ?_)
      · skip
        have q4 : (n).toInt < 0 := by have := lc_t_lt hc4; simpa using this
        exfalso; omega
      · skip
        have q4 : (n).toInt ≥ 0 := by have := lc_f_lt hc4; simpa using this
        show mm_Wp _ _ _ 6 _ _ _ _
        refine wp_s (i := .lload_n 0) (n := 1) (pc' := 7) (st' := [.long ((n).toInt64)]) rfl rfl ?_
        refine wp_s (i := .lload 4) (n := 2) (pc' := 9) (st' := [.long 1, .long ((n).toInt64)]) rfl rfl ?_
        refine wp_s (i := .lcmp) (n := 1) (pc' := 10) (st' := [.int (lg_cmp ((n).toInt64) 1)]) rfl rfl ?_
        refine wp_if (t := 17) (st := []) rfl rfl (fun hc5 => ?_) (fun hc5 => ?_)
        · skip
          have q5 : (n).toInt > 1 := by have := lc_t_gt hc5; simpa using this
          show mm_Wp _ _ _ 17 _ _ _ _
          refine wp_s (i := .iconst 0) (n := 1) (pc' := 18) (st' := [.int 0]) rfl rfl ?_
          refine wp_r (i := .ireturn) (n := 1) (v := some (.int 0)) rfl rfl ?_
          show mm_Wp X 12 mm_r186 7 [some (.ref 114), some (.int n)] [.int 0] _ _
          refine wp_s (i := .ifCond .ne 5) (n := 3) (pc' := 10) (st' := []) rfl rfl ?_
          refine wp_s (i := .iconst (-1)) (n := 1) (pc' := 11) (st' := [.int (-1)]) rfl rfl ?_
          refine wp_r (i := .ireturn) (n := 1) (v := some (.int (-1))) rfl rfl ?_
          exact ⟨rfl, pk_ok0⟩
        · skip
          have q5 : (n).toInt ≤ 1 := by have := lc_f_gt hc5; simpa using this
          exfalso; omega
    · skip
      have q3 : (n).toInt < 2 := by have := mc_f_ge hc3; simpa using this
      exfalso; omega
theorem pk_32 (X : Option (List Int32)) (n : Int32) : mm_Wp X 12 mm_r97 0 [some (.ref 0), some (.int n), none] [] hp_0 (fun v1 h1 => ∃ x : Int32, v1 = some (.int x) ∧ (∃ fs, h1[114]? = some (.inr (10, fs))) ∧ mm_Wp X 12 mm_r186 0 [some (.ref 114), some (.int n)] [] h1 (fun v2 h2 => v2 = some (.int x) ∧ pk_ok h2)) := by
  by_cases he0 : n = 0
  · subst he0; exact pk_32_0 X 
  by_cases he1 : n = 1
  · subst he1; exact pk_32_1 X 
  exact pk_32_o X n he0 he1
