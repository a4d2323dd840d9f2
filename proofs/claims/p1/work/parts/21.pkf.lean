set_option maxRecDepth 20000 in
set_option maxHeartbeats 4000000 in
theorem pk_34_0 (X : Option (List Int32)) (w u : Int32) : mm_Wp X 12 mm_r99 0 [some (.ref 0), some (.int 0), some (.int w), some (.int u), none, none] [] hp_0 (fun v1 h1 => ∃ x : Int32, v1 = some (.int x) ∧ (∃ fs, h1[114]? = some (.inr (10, fs))) ∧ mm_Wp X 12 mm_r188 0 [some (.ref 114), some (.int 0), some (.int w), some (.int u)] [] h1 (fun v2 h2 => v2 = some (.int x) ∧ pk_ok h2)) := by
  refine wp_s (i := .iload_n 1) (n := 1) (pc' := 1) (st' := [.int 0]) rfl rfl ?_
  refine wp_c (i := .invokestatic 301) (n := 3) (Dq := 11) (r' := mm_r107) (as := [.int 0]) (rest := []) (ls' := [some (.int 0)]) rfl rfl rfl ?_
  refine wp_x 13 (v := some (.int 1)) (h' := hp_0) (mm_dec (by decide +kernel)) ?_
  show mm_Wp X 12 mm_r99 4 [some (.ref 0), some (.int 0), some (.int w), some (.int u), none, none] [.int 1] _ _
  refine wp_s (i := .ifCond .ne 5) (n := 3) (pc' := 9) (st' := []) rfl rfl ?_
  refine wp_s (i := .aload_n 0) (n := 1) (pc' := 10) (st' := [.ref 0]) rfl rfl ?_
  refine wp_gf (idx := 64) (a := 0) (v := .ref 67) (pc' := 13) rfl rfl hb_0 rfl rfl ?_
  refine wp_s (i := .iload_n 1) (n := 1) (pc' := 14) (st' := [.int 0, .ref 67]) rfl rfl ?_
  refine wp_aa (b := 106) (pc' := 15) rfl (by decide) hb_67 rfl rfl rfl ?_
  refine wp_s (i := .astore 4) (n := 2) (pc' := 17) (ls' := [some (.ref 0), some (.int 0), some (.int w), some (.int u), some (.ref 106), none]) (st' := []) rfl rfl ?_
  refine wp_s (i := .aload 4) (n := 2) (pc' := 19) (st' := [.ref 106]) rfl rfl ?_
  refine wp_s (i := .aload 4) (n := 2) (pc' := 21) (st' := [.ref 106, .ref 106]) rfl rfl ?_
  refine wp_gf (idx := 310) (a := 106) (v := .int 0) (pc' := 24) rfl rfl hb_106 rfl rfl ?_
  refine wp_s (i := .iload_n 2) (n := 1) (pc' := 25) (st' := [.int w, .int 0, .ref 106]) rfl rfl ?_
  refine wp_c (i := .invokevirtual 313) (n := 3) (Dq := 11) (r' := mm_r60) (as := [.ref 106, .int 0, .int w]) (rest := []) (ls' := [some (.ref 106), some (.int 0), some (.int w)]) rfl rfl rfl ?_
  refine wp_s (i := .aload_n 0) (n := 1) (pc' := 1) (st' := [.ref 106]) rfl rfl ?_
  refine wp_c (i := .invokevirtual 28) (n := 3) (Dq := 10) (r' := mm_r58) (as := [.ref 106]) (rest := []) (ls' := [some (.ref 106)]) rfl rfl rfl ?_
  refine wp_x 12 (v := some (.int 1)) (h' := hp_0) (mm_dec (by decide +kernel)) ?_
  show mm_Wp X 11 mm_r60 4 [some (.ref 106), some (.int 0), some (.int w)] [.int 1] _ _
  refine wp_s (i := .ifCond .eq 5) (n := 3) (pc' := 7) (st' := []) rfl rfl ?_
  refine wp_s (i := .iconst 1) (n := 1) (pc' := 8) (st' := [.int 1]) rfl rfl ?_
  refine wp_r (i := .ireturn) (n := 1) (v := some (.int 1)) rfl rfl ?_
  show mm_Wp X 12 mm_r99 28 [some (.ref 0), some (.int 0), some (.int w), some (.int u), some (.ref 106), none] [.int 1] _ _
  refine wp_s (i := .istore 5) (n := 2) (pc' := 30) (ls' := [some (.ref 0), some (.int 0), some (.int w), some (.int u), some (.ref 106), some (.int 1)]) (st' := []) rfl rfl ?_
  refine wp_s (i := .iload 5) (n := 2) (pc' := 32) (st' := [.int 1]) rfl rfl ?_
  refine wp_s (i := .ifCond .eq 9) (n := 3) (pc' := 35) (st' := []) rfl rfl ?_
  refine wp_s (i := .bipush (-10)) (n := 2) (pc' := 37) (st' := [.int (-10)]) rfl rfl ?_
  refine wp_s (i := .iload 5) (n := 2) (pc' := 39) (st' := [.int 1, .int (-10)]) rfl rfl ?_
  refine wp_s (i := .isub) (n := 1) (pc' := 40) (st' := [.int (-11)]) rfl rfl ?_
  refine wp_r (i := .ireturn) (n := 1) (v := some (.int (-11))) rfl rfl ?_
  refine ⟨(-11), rfl, ⟨_, hb_114⟩, ?_⟩
  show mm_Wp X 12 mm_r188 0 [some (.ref 114), some (.int 0), some (.int w), some (.int u)] [] _ _
  refine wp_s (i := .iload_n 1) (n := 1) (pc' := 1) (st' := [.int 0]) rfl rfl ?_
  refine wp_s (i := .i2l) (n := 1) (pc' := 2) (st' := [.long 0]) rfl rfl ?_
  refine wp_s (i := .lconst 0) (n := 1) (pc' := 3) (st' := [.long 0, .long 0]) rfl rfl ?_
  refine wp_s (i := .ldc2_w 285) (n := 3) (pc' := 6) (st' := [.long 3, .long 0, .long 0]) rfl rfl ?_
  refine wp_c (i := .invokestatic 81) (n := 3) (Dq := 11) (r' := mm_r120) (as := [.long 0, .long 0, .long 3]) (rest := []) (ls' := [some (.long 0), none, some (.long 0), none, some (.long 3), none]) rfl rfl rfl ?_
  refine wp_x 16 (v := some (.int 1)) (h' := hp_0) (mm_dec (by decide +kernel)) ?_
  show mm_Wp X 12 mm_r188 9 [some (.ref 114), some (.int 0), some (.int w), some (.int u)] [.int 1] _ _
  refine wp_s (i := .ifCond .ne 5) (n := 3) (pc' := 14) (st' := []) rfl rfl ?_
  refine wp_s (i := .aload_n 0) (n := 1) (pc' := 15) (st' := [.ref 114]) rfl rfl ?_
  refine wp_gf (idx := 68) (a := 114) (v := .ref 134) (pc' := 18) rfl rfl hb_114 rfl rfl ?_
  refine wp_s (i := .iload_n 1) (n := 1) (pc' := 19) (st' := [.int 0, .ref 134]) rfl rfl ?_
  refine wp_ia (x := (-4)) (pc' := 20) rfl hb_134 rfl rfl rfl ?_
  refine wp_s (i := .bipush (-4)) (n := 2) (pc' := 22) (st' := [.int (-4), .int (-4)]) rfl rfl ?_
  refine wp_s (i := .if_icmp .ne 6) (n := 3) (pc' := 25) (st' := []) rfl rfl ?_
  refine wp_s (i := .bipush (-11)) (n := 2) (pc' := 27) (st' := [.int (-11)]) rfl rfl ?_
  refine wp_r (i := .ireturn) (n := 1) (v := some (.int (-11))) rfl rfl ?_
  exact ⟨rfl, pk_ok0⟩
set_option maxRecDepth 20000 in
set_option maxHeartbeats 4000000 in
theorem pk_34_1 (X : Option (List Int32)) (w u : Int32) : mm_Wp X 12 mm_r99 0 [some (.ref 0), some (.int 1), some (.int w), some (.int u), none, none] [] hp_0 (fun v1 h1 => ∃ x : Int32, v1 = some (.int x) ∧ (∃ fs, h1[114]? = some (.inr (10, fs))) ∧ mm_Wp X 12 mm_r188 0 [some (.ref 114), some (.int 1), some (.int w), some (.int u)] [] h1 (fun v2 h2 => v2 = some (.int x) ∧ pk_ok h2)) := by
  refine wp_s (i := .iload_n 1) (n := 1) (pc' := 1) (st' := [.int 1]) rfl rfl ?_
  refine wp_c (i := .invokestatic 301) (n := 3) (Dq := 11) (r' := mm_r107) (as := [.int 1]) (rest := []) (ls' := [some (.int 1)]) rfl rfl rfl ?_
  refine wp_x 13 (v := some (.int 1)) (h' := hp_0) (mm_dec (by decide +kernel)) ?_
  show mm_Wp X 12 mm_r99 4 [some (.ref 0), some (.int 1), some (.int w), some (.int u), none, none] [.int 1] _ _
  refine wp_s (i := .ifCond .ne 5) (n := 3) (pc' := 9) (st' := []) rfl rfl ?_
  refine wp_s (i := .aload_n 0) (n := 1) (pc' := 10) (st' := [.ref 0]) rfl rfl ?_
  refine wp_gf (idx := 64) (a := 0) (v := .ref 67) (pc' := 13) rfl rfl hb_0 rfl rfl ?_
  refine wp_s (i := .iload_n 1) (n := 1) (pc' := 14) (st' := [.int 1, .ref 67]) rfl rfl ?_
  refine wp_aa (b := 108) (pc' := 15) rfl (by decide) hb_67 rfl rfl rfl ?_
  refine wp_s (i := .astore 4) (n := 2) (pc' := 17) (ls' := [some (.ref 0), some (.int 1), some (.int w), some (.int u), some (.ref 108), none]) (st' := []) rfl rfl ?_
  refine wp_s (i := .aload 4) (n := 2) (pc' := 19) (st' := [.ref 108]) rfl rfl ?_
  refine wp_s (i := .aload 4) (n := 2) (pc' := 21) (st' := [.ref 108, .ref 108]) rfl rfl ?_
  refine wp_gf (idx := 310) (a := 108) (v := .int 0) (pc' := 24) rfl rfl hb_108 rfl rfl ?_
  refine wp_s (i := .iload_n 2) (n := 1) (pc' := 25) (st' := [.int w, .int 0, .ref 108]) rfl rfl ?_
  refine wp_c (i := .invokevirtual 313) (n := 3) (Dq := 11) (r' := mm_r60) (as := [.ref 108, .int 0, .int w]) (rest := []) (ls' := [some (.ref 108), some (.int 0), some (.int w)]) rfl rfl rfl ?_
  refine wp_s (i := .aload_n 0) (n := 1) (pc' := 1) (st' := [.ref 108]) rfl rfl ?_
  refine wp_c (i := .invokevirtual 28) (n := 3) (Dq := 10) (r' := mm_r58) (as := [.ref 108]) (rest := []) (ls' := [some (.ref 108)]) rfl rfl rfl ?_
  refine wp_x 12 (v := some (.int 1)) (h' := hp_0) (mm_dec (by decide +kernel)) ?_
  show mm_Wp X 11 mm_r60 4 [some (.ref 108), some (.int 0), some (.int w)] [.int 1] _ _
  refine wp_s (i := .ifCond .eq 5) (n := 3) (pc' := 7) (st' := []) rfl rfl ?_
  refine wp_s (i := .iconst 1) (n := 1) (pc' := 8) (st' := [.int 1]) rfl rfl ?_
  refine wp_r (i := .ireturn) (n := 1) (v := some (.int 1)) rfl rfl ?_
  show mm_Wp X 12 mm_r99 28 [some (.ref 0), some (.int 1), some (.int w), some (.int u), some (.ref 108), none] [.int 1] _ _
  refine wp_s (i := .istore 5) (n := 2) (pc' := 30) (ls' := [some (.ref 0), some (.int 1), some (.int w), some (.int u), some (.ref 108), some (.int 1)]) (st' := []) rfl rfl ?_
  refine wp_s (i := .iload 5) (n := 2) (pc' := 32) (st' := [.int 1]) rfl rfl ?_
  refine wp_s (i := .ifCond .eq 9) (n := 3) (pc' := 35) (st' := []) rfl rfl ?_
  refine wp_s (i := .bipush (-10)) (n := 2) (pc' := 37) (st' := [.int (-10)]) rfl rfl ?_
  refine wp_s (i := .iload 5) (n := 2) (pc' := 39) (st' := [.int 1, .int (-10)]) rfl rfl ?_
  refine wp_s (i := .isub) (n := 1) (pc' := 40) (st' := [.int (-11)]) rfl rfl ?_
  refine wp_r (i := .ireturn) (n := 1) (v := some (.int (-11))) rfl rfl ?_
  refine ⟨(-11), rfl, ⟨_, hb_114⟩, ?_⟩
  show mm_Wp X 12 mm_r188 0 [some (.ref 114), some (.int 1), some (.int w), some (.int u)] [] _ _
  refine wp_s (i := .iload_n 1) (n := 1) (pc' := 1) (st' := [.int 1]) rfl rfl ?_
  refine wp_s (i := .i2l) (n := 1) (pc' := 2) (st' := [.long 1]) rfl rfl ?_
  refine wp_s (i := .lconst 0) (n := 1) (pc' := 3) (st' := [.long 0, .long 1]) rfl rfl ?_
  refine wp_s (i := .ldc2_w 285) (n := 3) (pc' := 6) (st' := [.long 3, .long 0, .long 1]) rfl rfl ?_
  refine wp_c (i := .invokestatic 81) (n := 3) (Dq := 11) (r' := mm_r120) (as := [.long 1, .long 0, .long 3]) (rest := []) (ls' := [some (.long 1), none, some (.long 0), none, some (.long 3), none]) rfl rfl rfl ?_
  refine wp_x 16 (v := some (.int 1)) (h' := hp_0) (mm_dec (by decide +kernel)) ?_
  show mm_Wp X 12 mm_r188 9 [some (.ref 114), some (.int 1), some (.int w), some (.int u)] [.int 1] _ _
  refine wp_s (i := .ifCond .ne 5) (n := 3) (pc' := 14) (st' := []) rfl rfl ?_
  refine wp_s (i := .aload_n 0) (n := 1) (pc' := 15) (st' := [.ref 114]) rfl rfl ?_
  refine wp_gf (idx := 68) (a := 114) (v := .ref 134) (pc' := 18) rfl rfl hb_114 rfl rfl ?_
  refine wp_s (i := .iload_n 1) (n := 1) (pc' := 19) (st' := [.int 1, .ref 134]) rfl rfl ?_
  refine wp_ia (x := (-4)) (pc' := 20) rfl hb_134 rfl rfl rfl ?_
  refine wp_s (i := .bipush (-4)) (n := 2) (pc' := 22) (st' := [.int (-4), .int (-4)]) rfl rfl ?_
  refine wp_s (i := .if_icmp .ne 6) (n := 3) (pc' := 25) (st' := []) rfl rfl ?_
  refine wp_s (i := .bipush (-11)) (n := 2) (pc' := 27) (st' := [.int (-11)]) rfl rfl ?_
  refine wp_r (i := .ireturn) (n := 1) (v := some (.int (-11))) rfl rfl ?_
  exact ⟨rfl, pk_ok0⟩
set_option maxRecDepth 20000 in
set_option maxHeartbeats 4000000 in
theorem pk_34_2 (X : Option (List Int32)) (w u : Int32) : mm_Wp X 12 mm_r99 0 [some (.ref 0), some (.int 2), some (.int w), some (.int u), none, none] [] hp_0 (fun v1 h1 => ∃ x : Int32, v1 = some (.int x) ∧ (∃ fs, h1[114]? = some (.inr (10, fs))) ∧ mm_Wp X 12 mm_r188 0 [some (.ref 114), some (.int 2), some (.int w), some (.int u)] [] h1 (fun v2 h2 => v2 = some (.int x) ∧ pk_ok h2)) := by
  refine wp_s (i := .iload_n 1) (n := 1) (pc' := 1) (st' := [.int 2]) rfl rfl ?_
  refine wp_c (i := .invokestatic 301) (n := 3) (Dq := 11) (r' := mm_r107) (as := [.int 2]) (rest := []) (ls' := [some (.int 2)]) rfl rfl rfl ?_
  refine wp_x 13 (v := some (.int 1)) (h' := hp_0) (mm_dec (by decide +kernel)) ?_
  show mm_Wp X 12 mm_r99 4 [some (.ref 0), some (.int 2), some (.int w), some (.int u), none, none] [.int 1] _ _
  refine wp_s (i := .ifCond .ne 5) (n := 3) (pc' := 9) (st' := []) rfl rfl ?_
  refine wp_s (i := .aload_n 0) (n := 1) (pc' := 10) (st' := [.ref 0]) rfl rfl ?_
  refine wp_gf (idx := 64) (a := 0) (v := .ref 67) (pc' := 13) rfl rfl hb_0 rfl rfl ?_
  refine wp_s (i := .iload_n 1) (n := 1) (pc' := 14) (st' := [.int 2, .ref 67]) rfl rfl ?_
  refine wp_aa (b := 110) (pc' := 15) rfl (by decide) hb_67 rfl rfl rfl ?_
  refine wp_s (i := .astore 4) (n := 2) (pc' := 17) (ls' := [some (.ref 0), some (.int 2), some (.int w), some (.int u), some (.ref 110), none]) (st' := []) rfl rfl ?_
  refine wp_s (i := .aload 4) (n := 2) (pc' := 19) (st' := [.ref 110]) rfl rfl ?_
  refine wp_s (i := .aload 4) (n := 2) (pc' := 21) (st' := [.ref 110, .ref 110]) rfl rfl ?_
  refine wp_gf (idx := 310) (a := 110) (v := .int 0) (pc' := 24) rfl rfl hb_110 rfl rfl ?_
  refine wp_s (i := .iload_n 2) (n := 1) (pc' := 25) (st' := [.int w, .int 0, .ref 110]) rfl rfl ?_
  refine wp_c (i := .invokevirtual 313) (n := 3) (Dq := 11) (r' := mm_r60) (as := [.ref 110, .int 0, .int w]) (rest := []) (ls' := [some (.ref 110), some (.int 0), some (.int w)]) rfl rfl rfl ?_
  refine wp_s (i := .aload_n 0) (n := 1) (pc' := 1) (st' := [.ref 110]) rfl rfl ?_
  refine wp_c (i := .invokevirtual 28) (n := 3) (Dq := 10) (r' := mm_r58) (as := [.ref 110]) (rest := []) (ls' := [some (.ref 110)]) rfl rfl rfl ?_
  refine wp_x 12 (v := some (.int 1)) (h' := hp_0) (mm_dec (by decide +kernel)) ?_
  show mm_Wp X 11 mm_r60 4 [some (.ref 110), some (.int 0), some (.int w)] [.int 1] _ _
  refine wp_s (i := .ifCond .eq 5) (n := 3) (pc' := 7) (st' := []) rfl rfl ?_
  refine wp_s (i := .iconst 1) (n := 1) (pc' := 8) (st' := [.int 1]) rfl rfl ?_
  refine wp_r (i := .ireturn) (n := 1) (v := some (.int 1)) rfl rfl ?_
  show mm_Wp X 12 mm_r99 28 [some (.ref 0), some (.int 2), some (.int w), some (.int u), some (.ref 110), none] [.int 1] _ _
  refine wp_s (i := .istore 5) (n := 2) (pc' := 30) (ls' := [some (.ref 0), some (.int 2), some (.int w), some (.int u), some (.ref 110), some (.int 1)]) (st' := []) rfl rfl ?_
  refine wp_s (i := .iload 5) (n := 2) (pc' := 32) (st' := [.int 1]) rfl rfl ?_
  refine wp_s (i := .ifCond .eq 9) (n := 3) (pc' := 35) (st' := []) rfl rfl ?_
  refine wp_s (i := .bipush (-10)) (n := 2) (pc' := 37) (st' := [.int (-10)]) rfl rfl ?_
  refine wp_s (i := .iload 5) (n := 2) (pc' := 39) (st' := [.int 1, .int (-10)]) rfl rfl ?_
  refine wp_s (i := .isub) (n := 1) (pc' := 40) (st' := [.int (-11)]) rfl rfl ?_
  refine wp_r (i := .ireturn) (n := 1) (v := some (.int (-11))) rfl rfl ?_
  refine ⟨(-11), rfl, ⟨_, hb_114⟩, ?_⟩
  show mm_Wp X 12 mm_r188 0 [some (.ref 114), some (.int 2), some (.int w), some (.int u)] [] _ _
  refine wp_s (i := .iload_n 1) (n := 1) (pc' := 1) (st' := [.int 2]) rfl rfl ?_
  refine wp_s (i := .i2l) (n := 1) (pc' := 2) (st' := [.long 2]) rfl rfl ?_
  refine wp_s (i := .lconst 0) (n := 1) (pc' := 3) (st' := [.long 0, .long 2]) rfl rfl ?_
  refine wp_s (i := .ldc2_w 285) (n := 3) (pc' := 6) (st' := [.long 3, .long 0, .long 2]) rfl rfl ?_
  refine wp_c (i := .invokestatic 81) (n := 3) (Dq := 11) (r' := mm_r120) (as := [.long 2, .long 0, .long 3]) (rest := []) (ls' := [some (.long 2), none, some (.long 0), none, some (.long 3), none]) rfl rfl rfl ?_
  refine wp_x 16 (v := some (.int 1)) (h' := hp_0) (mm_dec (by decide +kernel)) ?_
  show mm_Wp X 12 mm_r188 9 [some (.ref 114), some (.int 2), some (.int w), some (.int u)] [.int 1] _ _
  refine wp_s (i := .ifCond .ne 5) (n := 3) (pc' := 14) (st' := []) rfl rfl ?_
  refine wp_s (i := .aload_n 0) (n := 1) (pc' := 15) (st' := [.ref 114]) rfl rfl ?_
  refine wp_gf (idx := 68) (a := 114) (v := .ref 134) (pc' := 18) rfl rfl hb_114 rfl rfl ?_
  refine wp_s (i := .iload_n 1) (n := 1) (pc' := 19) (st' := [.int 2, .ref 134]) rfl rfl ?_
  refine wp_ia (x := (-4)) (pc' := 20) rfl hb_134 rfl rfl rfl ?_
  refine wp_s (i := .bipush (-4)) (n := 2) (pc' := 22) (st' := [.int (-4), .int (-4)]) rfl rfl ?_
  refine wp_s (i := .if_icmp .ne 6) (n := 3) (pc' := 25) (st' := []) rfl rfl ?_
  refine wp_s (i := .bipush (-11)) (n := 2) (pc' := 27) (st' := [.int (-11)]) rfl rfl ?_
  refine wp_r (i := .ireturn) (n := 1) (v := some (.int (-11))) rfl rfl ?_
  exact ⟨rfl, pk_ok0⟩
set_option maxRecDepth 20000 in
set_option maxHeartbeats 4000000 in
theorem pk_34_3 (X : Option (List Int32)) (w u : Int32) : mm_Wp X 12 mm_r99 0 [some (.ref 0), some (.int 3), some (.int w), some (.int u), none, none] [] hp_0 (fun v1 h1 => ∃ x : Int32, v1 = some (.int x) ∧ (∃ fs, h1[114]? = some (.inr (10, fs))) ∧ mm_Wp X 12 mm_r188 0 [some (.ref 114), some (.int 3), some (.int w), some (.int u)] [] h1 (fun v2 h2 => v2 = some (.int x) ∧ pk_ok h2)) := by
  refine wp_s (i := .iload_n 1) (n := 1) (pc' := 1) (st' := [.int 3]) rfl rfl ?_
  refine wp_c (i := .invokestatic 301) (n := 3) (Dq := 11) (r' := mm_r107) (as := [.int 3]) (rest := []) (ls' := [some (.int 3)]) rfl rfl rfl ?_
  refine wp_x 13 (v := some (.int 1)) (h' := hp_0) (mm_dec (by decide +kernel)) ?_
  show mm_Wp X 12 mm_r99 4 [some (.ref 0), some (.int 3), some (.int w), some (.int u), none, none] [.int 1] _ _
  refine wp_s (i := .ifCond .ne 5) (n := 3) (pc' := 9) (st' := []) rfl rfl ?_
  refine wp_s (i := .aload_n 0) (n := 1) (pc' := 10) (st' := [.ref 0]) rfl rfl ?_
  refine wp_gf (idx := 64) (a := 0) (v := .ref 67) (pc' := 13) rfl rfl hb_0 rfl rfl ?_
  refine wp_s (i := .iload_n 1) (n := 1) (pc' := 14) (st' := [.int 3, .ref 67]) rfl rfl ?_
  refine wp_aa (b := 112) (pc' := 15) rfl (by decide) hb_67 rfl rfl rfl ?_
  refine wp_s (i := .astore 4) (n := 2) (pc' := 17) (ls' := [some (.ref 0), some (.int 3), some (.int w), some (.int u), some (.ref 112), none]) (st' := []) rfl rfl ?_
  refine wp_s (i := .aload 4) (n := 2) (pc' := 19) (st' := [.ref 112]) rfl rfl ?_
  refine wp_s (i := .aload 4) (n := 2) (pc' := 21) (st' := [.ref 112, .ref 112]) rfl rfl ?_
  refine wp_gf (idx := 310) (a := 112) (v := .int 0) (pc' := 24) rfl rfl hb_112 rfl rfl ?_
  refine wp_s (i := .iload_n 2) (n := 1) (pc' := 25) (st' := [.int w, .int 0, .ref 112]) rfl rfl ?_
  refine wp_c (i := .invokevirtual 313) (n := 3) (Dq := 11) (r' := mm_r60) (as := [.ref 112, .int 0, .int w]) (rest := []) (ls' := [some (.ref 112), some (.int 0), some (.int w)]) rfl rfl rfl ?_
  refine wp_s (i := .aload_n 0) (n := 1) (pc' := 1) (st' := [.ref 112]) rfl rfl ?_
  refine wp_c (i := .invokevirtual 28) (n := 3) (Dq := 10) (r' := mm_r58) (as := [.ref 112]) (rest := []) (ls' := [some (.ref 112)]) rfl rfl rfl ?_
  refine wp_x 12 (v := some (.int 1)) (h' := hp_0) (mm_dec (by decide +kernel)) ?_
  show mm_Wp X 11 mm_r60 4 [some (.ref 112), some (.int 0), some (.int w)] [.int 1] _ _
  refine wp_s (i := .ifCond .eq 5) (n := 3) (pc' := 7) (st' := []) rfl rfl ?_
  refine wp_s (i := .iconst 1) (n := 1) (pc' := 8) (st' := [.int 1]) rfl rfl ?_
  refine wp_r (i := .ireturn) (n := 1) (v := some (.int 1)) rfl rfl ?_
  show mm_Wp X 12 mm_r99 28 [some (.ref 0), some (.int 3), some (.int w), some (.int u), some (.ref 112), none] [.int 1] _ _
  refine wp_s (i := .istore 5) (n := 2) (pc' := 30) (ls' := [some (.ref 0), some (.int 3), some (.int w), some (.int u), some (.ref 112), some (.int 1)]) (st' := []) rfl rfl ?_
  refine wp_s (i := .iload 5) (n := 2) (pc' := 32) (st' := [.int 1]) rfl rfl ?_
  refine wp_s (i := .ifCond .eq 9) (n := 3) (pc' := 35) (st' := []) rfl rfl ?_
  refine wp_s (i := .bipush (-10)) (n := 2) (pc' := 37) (st' := [.int (-10)]) rfl rfl ?_
  refine wp_s (i := .iload 5) (n := 2) (pc' := 39) (st' := [.int 1, .int (-10)]) rfl rfl ?_
  refine wp_s (i := .isub) (n := 1) (pc' := 40) (st' := [.int (-11)]) rfl rfl ?_
  refine wp_r (i := .ireturn) (n := 1) (v := some (.int (-11))) rfl rfl ?_
  refine ⟨(-11), rfl, ⟨_, hb_114⟩, ?_⟩
  show mm_Wp X 12 mm_r188 0 [some (.ref 114), some (.int 3), some (.int w), some (.int u)] [] _ _
  refine wp_s (i := .iload_n 1) (n := 1) (pc' := 1) (st' := [.int 3]) rfl rfl ?_
  refine wp_s (i := .i2l) (n := 1) (pc' := 2) (st' := [.long 3]) rfl rfl ?_
  refine wp_s (i := .lconst 0) (n := 1) (pc' := 3) (st' := [.long 0, .long 3]) rfl rfl ?_
  refine wp_s (i := .ldc2_w 285) (n := 3) (pc' := 6) (st' := [.long 3, .long 0, .long 3]) rfl rfl ?_
  refine wp_c (i := .invokestatic 81) (n := 3) (Dq := 11) (r' := mm_r120) (as := [.long 3, .long 0, .long 3]) (rest := []) (ls' := [some (.long 3), none, some (.long 0), none, some (.long 3), none]) rfl rfl rfl ?_
  refine wp_x 16 (v := some (.int 1)) (h' := hp_0) (mm_dec (by decide +kernel)) ?_
  show mm_Wp X 12 mm_r188 9 [some (.ref 114), some (.int 3), some (.int w), some (.int u)] [.int 1] _ _
  refine wp_s (i := .ifCond .ne 5) (n := 3) (pc' := 14) (st' := []) rfl rfl ?_
  refine wp_s (i := .aload_n 0) (n := 1) (pc' := 15) (st' := [.ref 114]) rfl rfl ?_
  refine wp_gf (idx := 68) (a := 114) (v := .ref 134) (pc' := 18) rfl rfl hb_114 rfl rfl ?_
  refine wp_s (i := .iload_n 1) (n := 1) (pc' := 19) (st' := [.int 3, .ref 134]) rfl rfl ?_
  refine wp_ia (x := (-4)) (pc' := 20) rfl hb_134 rfl rfl rfl ?_
  refine wp_s (i := .bipush (-4)) (n := 2) (pc' := 22) (st' := [.int (-4), .int (-4)]) rfl rfl ?_
  refine wp_s (i := .if_icmp .ne 6) (n := 3) (pc' := 25) (st' := []) rfl rfl ?_
  refine wp_s (i := .bipush (-11)) (n := 2) (pc' := 27) (st' := [.int (-11)]) rfl rfl ?_
  refine wp_r (i := .ireturn) (n := 1) (v := some (.int (-11))) rfl rfl ?_
  exact ⟨rfl, pk_ok0⟩
set_option maxRecDepth 20000 in
set_option maxHeartbeats 4000000 in
theorem pk_34_o (X : Option (List Int32)) (n w u : Int32) (he0 : ¬ n = 0) (he1 : ¬ n = 1) (he2 : ¬ n = 2) (he3 : ¬ n = 3) : mm_Wp X 12 mm_r99 0 [some (.ref 0), some (.int n), some (.int w), some (.int u), none, none] [] hp_0 (fun v1 h1 => ∃ x : Int32, v1 = some (.int x) ∧ (∃ fs, h1[114]? = some (.inr (10, fs))) ∧ mm_Wp X 12 mm_r188 0 [some (.ref 114), some (.int n), some (.int w), some (.int u)] [] h1 (fun v2 h2 => v2 = some (.int x) ∧ pk_ok h2)) := by
  have hf0 : n.toInt ≠ 0 := fun q => he0 (Int32.toInt_inj.mp (by rw [q]; rfl))
  have hf1 : n.toInt ≠ 1 := fun q => he1 (Int32.toInt_inj.mp (by rw [q]; rfl))
  have hf2 : n.toInt ≠ 2 := fun q => he2 (Int32.toInt_inj.mp (by rw [q]; rfl))
  have hf3 : n.toInt ≠ 3 := fun q => he3 (Int32.toInt_inj.mp (by rw [q]; rfl))
  refine wp_s (i := .iload_n 1) (n := 1) (pc' := 1) (st' := [.int n]) rfl rfl ?_
  refine wp_c (i := .invokestatic 301) (n := 3) (Dq := 11) (r' := mm_r107) (as := [.int n]) (rest := []) (ls' := [some (.int n)]) rfl rfl rfl ?_
  refine wp_s (i := .iload_n 0) (n := 1) (pc' := 1) (st' := [.int n]) rfl rfl ?_
  refine wp_if (t := 13) (st := []) rfl rfl (fun hc1 => ?_) (fun hc1 => ?_)
  · skip
    have q1 : (n).toInt < 0 := by have := mc_t_lt hc1; simpa using this
    show mm_Wp _ _ _ 13 _ _ _ _
    refine wp_s (i := .iconst 0) (n := 1) (pc' := 14) (st' := [.int 0]) rfl rfl ?_
    refine wp_r (i := .ireturn) (n := 1) (v := some (.int 0)) rfl rfl ?_
    show mm_Wp X 12 mm_r99 4 [some (.ref 0), some (.int n), some (.int w), some (.int u), none, none] [.int 0] _ _
    refine wp_s (i := .ifCond .ne 5) (n := 3) (pc' := 7) (st' := []) rfl rfl ?_
    refine wp_s (i := .iconst (-1)) (n := 1) (pc' := 8) (st' := [.int (-1)]) rfl rfl ?_
    refine wp_r (i := .ireturn) (n := 1) (v := some (.int (-1))) rfl rfl ?_
    refine ⟨(-1), rfl, ⟨_, hb_114⟩, ?_⟩
    show mm_Wp X 12 mm_r188 0 [some (.ref 114), some (.int n), some (.int w), some (.int u)] [] _ _
    refine wp_s (i := .iload_n 1) (n := 1) (pc' := 1) (st' := [.int n]) rfl rfl ?_
    refine wp_s (i := .i2l) (n := 1) (pc' := 2) (st' := [.long ((n).toInt64)]) rfl rfl ?_
    refine wp_s (i := .lconst 0) (n := 1) (pc' := 3) (st' := [.long 0, .long ((n).toInt64)]) rfl rfl ?_
    refine wp_s (i := .ldc2_w 285) (n := 3) (pc' := 6) (st' := [.long 3, .long 0, .long ((n).toInt64)]) rfl rfl ?_
    refine wp_c (i := .invokestatic 81) (n := 3) (Dq := 11) (r' := mm_r120) (as := [.long ((n).toInt64), .long 0, .long 3]) (rest := []) (ls' := [some (.long ((n).toInt64)), none, some (.long 0), none, some (.long 3), none]) rfl rfl rfl ?_
    refine wp_s (i := .lload_n 0) (n := 1) (pc' := 1) (st' := [.long ((n).toInt64)]) rfl rfl ?_
    refine wp_s (i := .lload_n 2) (n := 1) (pc' := 2) (st' := [.long 0, .long ((n).toInt64)]) rfl rfl ?_
    refine wp_s (i := .lcmp) (n := 1) (pc' := 3) (st' := [.int (lg_cmp ((n).toInt64) 0)]) rfl rfl ?_
    refine wp_if (t := 17) (st := []) rfl rfl (fun hc2 => ?_) (fun hc2 => ?_)
    · skip
      have q2 : (n).toInt < 0 := by have := lc_t_lt hc2; simpa using this
      show mm_Wp _ _ _ 17 _ _ _ _
      refine wp_s (i := .iconst 0) (n := 1) (pc' := 18) (st' := [.int 0]) rfl rfl ?_
      refine wp_r (i := .ireturn) (n := 1) (v := some (.int 0)) rfl rfl ?_
      show mm_Wp X 12 mm_r188 9 [some (.ref 114), some (.int n), some (.int w), some (.int u)] [.int 0] _ _
      refine wp_s (i := .ifCond .ne 5) (n := 3) (pc' := 12) (st' := []) rfl rfl ?_
      refine wp_s (i := .iconst (-1)) (n := 1) (pc' := 13) (st' := [.int (-1)]) rfl rfl ?_
      refine wp_r (i := .ireturn) (n := 1) (v := some (.int (-1))) rfl rfl ?_
      exact ⟨rfl, pk_ok0⟩
    · skip
      have q2 : (n).toInt ≥ 0 := by have := lc_f_lt hc2; simpa using this
      exfalso; omega
  · skip
    have q1 : (n).toInt ≥ 0 := by have := mc_f_lt hc1; simpa using this
    show mm_Wp _ _ _ 4 _ _ _ _
    refine wp_s (i := .iload_n 0) (n := 1) (pc' := 5) (st' := [.int n]) rfl rfl ?_
    refine wp_s (i := .iconst 4) (n := 1) (pc' := 6) (st' := [.int 4, .int n]) rfl rfl ?_
    refine wp_ic (t := 13) (st := []) rfl rfl (fun hc3 => ?_) (fun hc3 => ?_)
    · skip
      have q3 : (n).toInt ≥ 4 := by have := mc_t_ge hc3; simpa using this
      show mm_Wp _ _ _ 13 _ _ _ _
      refine wp_s (i := .iconst 0) (n := 1) (pc' := 14) (st' := [.int 0]) rfl rfl ?_
      refine wp_r (i := .ireturn) (n := 1) (v := some (.int 0)) rfl rfl ?_
      show mm_Wp X 12 mm_r99 4 [some (.ref 0), some (.int n), some (.int w), some (.int u), none, none] [.int 0] _ _
      refine wp_s (i := .ifCond .ne 5) (n := 3) (pc' := 7) (st' := []) rfl rfl ?_
      refine wp_s (i := .iconst (-1)) (n := 1) (pc' := 8) (st' := [.int (-1)]) rfl rfl ?_
      refine wp_r (i := .ireturn) (n := 1) (v := some (.int (-1))) rfl rfl ?_
      refine ⟨(-1), rfl, ⟨_, hb_114⟩, ?_⟩
      show mm_Wp X 12 mm_r188 0 [some (.ref 114), some (.int n), some (.int w), some (.int u)] [] _ _
      refine wp_s (i := .iload_n 1) (n := 1) (pc' := 1) (st' := [.int n]) rfl rfl ?_
      refine wp_s (i := .i2l) (n := 1) (pc' := 2) (st' := [.long ((n).toInt64)]) rfl rfl ?_
      refine wp_s (i := .lconst 0) (n := 1) (pc' := 3) (st' := [.long 0, .long ((n).toInt64)]) rfl rfl ?_
      refine wp_s (i := .ldc2_w 285) (n := 3) (pc' := 6) (st' := [.long 3, .long 0, .long ((n).toInt64)]) rfl rfl ?_
      refine wp_c (i := .invokestatic 81) (n := 3) (Dq := 11) (r' := mm_r120) (as := [.long ((n).toInt64), .long 0, .long 3]) (rest := []) (ls' := [some (.long ((n).toInt64)), none, some (.long 0), none, some (.long 3), none]) rfl rfl rfl ?_
      refine wp_s (i := .lload_n 0) (n := 1) (pc' := 1) (st' := [.long ((n).toInt64)]) rfl rfl ?_
      refine wp_s (i := .lload_n 2) (n := 1) (pc' := 2) (st' := [.long 0, .long ((n).toInt64)]) rfl rfl ?_
      refine wp_s (i := .lcmp) (n := 1) (pc' := 3) (st' := [.int (lg_cmp ((n).toInt64) 0)]) rfl rfl ?_
      refine wp_if (t := 17) (st := []) rfl rfl (fun hc4 => ?_) (fun hc4 => ?_)
      · skip
        have q4 : (n).toInt < 0 := by have := lc_t_lt hc4; simpa using this
        exfalso; omega
      · skip
        have q4 : (n).toInt ≥ 0 := by have := lc_f_lt hc4; simpa using this
        show mm_Wp _ _ _ 6 _ _ _ _
        refine wp_s (i := .lload_n 0) (n := 1) (pc' := 7) (st' := [.long ((n).toInt64)]) rfl rfl ?_
        refine wp_s (i := .lload 4) (n := 2) (pc' := 9) (st' := [.long 3, .long ((n).toInt64)]) rfl rfl ?_
        refine wp_s (i := .lcmp) (n := 1) (pc' := 10) (st' := [.int (lg_cmp ((n).toInt64) 3)]) rfl rfl ?_
        refine wp_if (t := 17) (st := []) rfl rfl (fun hc5 => ?_) (fun hc5 => ?_)
        · skip
          have q5 : (n).toInt > 3 := by have := lc_t_gt hc5; simpa using this
          show mm_Wp _ _ _ 17 _ _ _ _
          refine wp_s (i := .iconst 0) (n := 1) (pc' := 18) (st' := [.int 0]) rfl rfl ?_
          refine wp_r (i := .ireturn) (n := 1) (v := some (.int 0)) rfl rfl ?_
          show mm_Wp X 12 mm_r188 9 [some (.ref 114), some (.int n), some (.int w), some (.int u)] [.int 0] _ _
          refine wp_s (i := .ifCond .ne 5) (n := 3) (pc' := 12) (st' := []) rfl rfl ?_
          refine wp_s (i := .iconst (-1)) (n := 1) (pc' := 13) (st' := [.int (-1)]) rfl rfl ?_
          refine wp_r (i := .ireturn) (n := 1) (v := some (.int (-1))) rfl rfl ?_
          exact ⟨rfl, pk_ok0⟩
        · skip
          have q5 : (n).toInt ≤ 3 := by have := lc_f_gt hc5; simpa using this
          exfalso; omega
    · skip
      have q3 : (n).toInt < 4 := by have := mc_f_ge hc3; simpa using this
      exfalso; omega
theorem pk_34 (X : Option (List Int32)) (n w u : Int32) : mm_Wp X 12 mm_r99 0 [some (.ref 0), some (.int n), some (.int w), some (.int u), none, none] [] hp_0 (fun v1 h1 => ∃ x : Int32, v1 = some (.int x) ∧ (∃ fs, h1[114]? = some (.inr (10, fs))) ∧ mm_Wp X 12 mm_r188 0 [some (.ref 114), some (.int n), some (.int w), some (.int u)] [] h1 (fun v2 h2 => v2 = some (.int x) ∧ pk_ok h2)) := by
  by_cases he0 : n = 0
  · subst he0; exact pk_34_0 X w u
  by_cases he1 : n = 1
  · subst he1; exact pk_34_1 X w u
  by_cases he2 : n = 2
  · subst he2; exact pk_34_2 X w u
  by_cases he3 : n = 3
  · subst he3; exact pk_34_3 X w u
  exact pk_34_o X n w u he0 he1 he2 he3
