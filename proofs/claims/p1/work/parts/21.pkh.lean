set_option maxRecDepth 20000 in
set_option maxHeartbeats 4000000 in
theorem pk_36 (X : Option (List Int32))  : mm_Wp X 12 mm_r101 0 [some (.ref 0)] [] hp_0 (fun v1 h1 => ∃ x : Int32, v1 = some (.int x) ∧ (∃ fs, h1[114]? = some (.inr (10, fs))) ∧ mm_Wp X 12 mm_r190 0 [some (.ref 114)] [] h1 (fun v2 h2 => v2 = some (.int x) ∧ pk_ok h2)) := by
  refine wp_x 8 (v := some (.int 0)) (h' := hp_0) (mm_dec (by decide +kernel)) ?_
  refine ⟨0, rfl, ⟨_, hb_114⟩, ?_⟩
  show mm_Wp X 12 mm_r190 0 [some (.ref 114)] [] _ _
  refine wp_x 8 (v := some (.int 0)) (h' := hp_0) (mm_dec (by decide +kernel)) ?_
  exact ⟨rfl, pk_ok0⟩
set_option maxRecDepth 20000 in
set_option maxHeartbeats 4000000 in
theorem pk_37_0 (X : Option (List Int32))  : mm_Wp X 12 mm_r102 0 [some (.ref 0), some (.int 0)] [] hp_0 (fun v1 h1 => ∃ x : Int32, v1 = some (.int x) ∧ (∃ fs, h1[114]? = some (.inr (10, fs))) ∧ mm_Wp X 12 mm_r191 0 [some (.ref 114), some (.int 0), none, none] [] h1 (fun v2 h2 => v2 = some (.int x) ∧ pk_ok h2)) := by
  refine wp_x 91 (v := some (.int 0)) (h' := hp_0) (mm_dec (by decide +kernel)) ?_
  refine ⟨0, rfl, ⟨_, hb_114⟩, ?_⟩
  show mm_Wp X 12 mm_r191 0 [some (.ref 114), some (.int 0), none, none] [] _ _
  refine wp_x 86 (v := some (.int 0)) (h' := hp_0) (mm_dec (by decide +kernel)) ?_
  exact ⟨rfl, pk_ok0⟩
set_option maxRecDepth 20000 in
set_option maxHeartbeats 4000000 in
theorem pk_37_1 (X : Option (List Int32))  : mm_Wp X 12 mm_r102 0 [some (.ref 0), some (.int 1)] [] hp_0 (fun v1 h1 => ∃ x : Int32, v1 = some (.int x) ∧ (∃ fs, h1[114]? = some (.inr (10, fs))) ∧ mm_Wp X 12 mm_r191 0 [some (.ref 114), some (.int 1), none, none] [] h1 (fun v2 h2 => v2 = some (.int x) ∧ pk_ok h2)) := by
  refine wp_x 66 (v := some (.int 0)) (h' := hp_0) (mm_dec (by decide +kernel)) ?_
  refine ⟨0, rfl, ⟨_, hb_114⟩, ?_⟩
  show mm_Wp X 12 mm_r191 0 [some (.ref 114), some (.int 1), none, none] [] _ _
  refine wp_x 226 (v := some (.int 0)) (h' := hp_0) (mm_dec (by decide +kernel)) ?_
  exact ⟨rfl, pk_ok0⟩
set_option maxRecDepth 20000 in
set_option maxHeartbeats 4000000 in
theorem pk_37_2 (X : Option (List Int32))  : mm_Wp X 12 mm_r102 0 [some (.ref 0), some (.int 2)] [] hp_0 (fun v1 h1 => ∃ x : Int32, v1 = some (.int x) ∧ (∃ fs, h1[114]? = some (.inr (10, fs))) ∧ mm_Wp X 12 mm_r191 0 [some (.ref 114), some (.int 2), none, none] [] h1 (fun v2 h2 => v2 = some (.int x) ∧ pk_ok h2)) := by
  refine wp_x 49 (v := some (.int 0)) (h' := hp_0) (mm_dec (by decide +kernel)) ?_
  refine ⟨0, rfl, ⟨_, hb_114⟩, ?_⟩
  show mm_Wp X 12 mm_r191 0 [some (.ref 114), some (.int 2), none, none] [] _ _
  refine wp_x 98 (v := some (.int 0)) (h' := hp_0) (mm_dec (by decide +kernel)) ?_
  exact ⟨rfl, pk_ok0⟩
set_option maxRecDepth 20000 in
set_option maxHeartbeats 4000000 in
theorem pk_37_3 (X : Option (List Int32))  : mm_Wp X 12 mm_r102 0 [some (.ref 0), some (.int 3)] [] hp_0 (fun v1 h1 => ∃ x : Int32, v1 = some (.int x) ∧ (∃ fs, h1[114]? = some (.inr (10, fs))) ∧ mm_Wp X 12 mm_r191 0 [some (.ref 114), some (.int 3), none, none] [] h1 (fun v2 h2 => v2 = some (.int x) ∧ pk_ok h2)) := by
  refine wp_x 11 (v := some (.int 0)) (h' := hp_0) (mm_dec (by decide +kernel)) ?_
  refine ⟨0, rfl, ⟨_, hb_114⟩, ?_⟩
  show mm_Wp X 12 mm_r191 0 [some (.ref 114), some (.int 3), none, none] [] _ _
  refine wp_x 87 (v := some (.int 0)) (h' := hp_0) (mm_dec (by decide +kernel)) ?_
  exact ⟨rfl, pk_ok0⟩
set_option maxRecDepth 20000 in
set_option maxHeartbeats 4000000 in
theorem pk_37_4 (X : Option (List Int32))  : mm_Wp X 12 mm_r102 0 [some (.ref 0), some (.int 4)] [] hp_0 (fun v1 h1 => ∃ x : Int32, v1 = some (.int x) ∧ (∃ fs, h1[114]? = some (.inr (10, fs))) ∧ mm_Wp X 12 mm_r191 0 [some (.ref 114), some (.int 4), none, none] [] h1 (fun v2 h2 => v2 = some (.int x) ∧ pk_ok h2)) := by
  refine wp_x 23 (v := some (.int (-4))) (h' := hp_0) (mm_dec (by decide +kernel)) ?_
  refine ⟨(-4), rfl, ⟨_, hb_114⟩, ?_⟩
  show mm_Wp X 12 mm_r191 0 [some (.ref 114), some (.int 4), none, none] [] _ _
  refine wp_x 93 (v := some (.int (-4))) (h' := hp_0) (mm_dec (by decide +kernel)) ?_
  exact ⟨rfl, pk_ok0⟩
set_option maxRecDepth 20000 in
set_option maxHeartbeats 4000000 in
theorem pk_37_o (X : Option (List Int32)) (n : Int32) (he0 : ¬ n = 0) (he1 : ¬ n = 1) (he2 : ¬ n = 2) (he3 : ¬ n = 3) (he4 : ¬ n = 4) : mm_Wp X 12 mm_r102 0 [some (.ref 0), some (.int n)] [] hp_0 (fun v1 h1 => ∃ x : Int32, v1 = some (.int x) ∧ (∃ fs, h1[114]? = some (.inr (10, fs))) ∧ mm_Wp X 12 mm_r191 0 [some (.ref 114), some (.int n), none, none] [] h1 (fun v2 h2 => v2 = some (.int x) ∧ pk_ok h2)) := by
  have hf0 : n.toInt ≠ 0 := fun q => he0 (Int32.toInt_inj.mp (by rw [q]; rfl))
  have hf1 : n.toInt ≠ 1 := fun q => he1 (Int32.toInt_inj.mp (by rw [q]; rfl))
  have hf2 : n.toInt ≠ 2 := fun q => he2 (Int32.toInt_inj.mp (by rw [q]; rfl))
  have hf3 : n.toInt ≠ 3 := fun q => he3 (Int32.toInt_inj.mp (by rw [q]; rfl))
  have hf4 : n.toInt ≠ 4 := fun q => he4 (Int32.toInt_inj.mp (by rw [q]; rfl))
  refine wp_s (i := .iload_n 1) (n := 1) (pc' := 1) (st' := [.int n]) rfl rfl ?_
  refine wp_ts (t := 102) (st := []) rfl (by unfold mm_sw; rw [if_pos (by omega)]; rfl) ?_
  refine wp_s (i := .iconst (-1)) (n := 1) (pc' := 103) (st' := [.int (-1)]) rfl rfl ?_
  refine wp_r (i := .ireturn) (n := 1) (v := some (.int (-1))) rfl rfl ?_
  refine ⟨(-1), rfl, ⟨_, hb_114⟩, ?_⟩
  show mm_Wp X 12 mm_r191 0 [some (.ref 114), some (.int n), none, none] [] _ _
  refine wp_s (i := .iconst 0) (n := 1) (pc' := 1) (st' := [.int 0]) rfl rfl ?_
  refine wp_s (i := .istore_n 2) (n := 1) (pc' := 2) (ls' := [some (.ref 114), some (.int n), some (.int 0), none]) (st' := []) rfl rfl ?_
  refine wp_s (i := .iconst 0) (n := 1) (pc' := 3) (st' := [.int 0]) rfl rfl ?_
  refine wp_s (i := .istore_n 3) (n := 1) (pc' := 4) (ls' := [some (.ref 114), some (.int n), some (.int 0), some (.int 0)]) (st' := []) rfl rfl ?_
  refine wp_s (i := .iload_n 3) (n := 1) (pc' := 5) (st' := [.int 0]) rfl rfl ?_
  refine wp_s (i := .iconst 5) (n := 1) (pc' := 6) (st' := [.int 5, .int 0]) rfl rfl ?_
  refine wp_s (i := .if_icmp .ge 20) (n := 3) (pc' := 9) (st' := []) rfl rfl ?_
  refine wp_s (i := .iload_n 2) (n := 1) (pc' := 10) (st' := [.int 0]) rfl rfl ?_
  refine wp_s (i := .aload_n 0) (n := 1) (pc' := 11) (st' := [.ref 114, .int 0]) rfl rfl ?_
  refine wp_gf (idx := 7) (a := 114) (v := .ref 115) (pc' := 14) rfl rfl hb_114 rfl rfl ?_
  refine wp_s (i := .iconst 5) (n := 1) (pc' := 15) (st' := [.int 5, .ref 115, .int 0]) rfl rfl ?_
  refine wp_s (i := .iload_n 3) (n := 1) (pc' := 16) (st' := [.int 0, .int 5, .ref 115, .int 0]) rfl rfl ?_
  refine wp_s (i := .iadd) (n := 1) (pc' := 17) (st' := [.int 5, .ref 115, .int 0]) rfl rfl ?_
  refine wp_ia (x := 0) (pc' := 18) rfl hb_115 rfl rfl rfl ?_
  refine wp_s (i := .iadd) (n := 1) (pc' := 19) (st' := [.int 0]) rfl rfl ?_
  refine wp_s (i := .istore_n 2) (n := 1) (pc' := 20) (ls' := [some (.ref 114), some (.int n), some (.int 0), some (.int 0)]) (st' := []) rfl rfl ?_
  refine wp_s (i := .iinc 3 1) (n := 3) (pc' := 23) (ls' := [some (.ref 114), some (.int n), some (.int 0), some (.int 1)]) (st' := []) rfl rfl ?_
  refine wp_s (i := .goto (-19)) (n := 3) (pc' := 4) (st' := []) rfl rfl ?_
  refine wp_s (i := .iload_n 3) (n := 1) (pc' := 5) (st' := [.int 1]) rfl rfl ?_
  refine wp_s (i := .iconst 5) (n := 1) (pc' := 6) (st' := [.int 5, .int 1]) rfl rfl ?_
  refine wp_s (i := .if_icmp .ge 20) (n := 3) (pc' := 9) (st' := []) rfl rfl ?_
  refine wp_s (i := .iload_n 2) (n := 1) (pc' := 10) (st' := [.int 0]) rfl rfl ?_
  refine wp_s (i := .aload_n 0) (n := 1) (pc' := 11) (st' := [.ref 114, .int 0]) rfl rfl ?_
  refine wp_gf (idx := 7) (a := 114) (v := .ref 115) (pc' := 14) rfl rfl hb_114 rfl rfl ?_
  refine wp_s (i := .iconst 5) (n := 1) (pc' := 15) (st' := [.int 5, .ref 115, .int 0]) rfl rfl ?_
  refine wp_s (i := .iload_n 3) (n := 1) (pc' := 16) (st' := [.int 1, .int 5, .ref 115, .int 0]) rfl rfl ?_
  refine wp_s (i := .iadd) (n := 1) (pc' := 17) (st' := [.int 6, .ref 115, .int 0]) rfl rfl ?_
  refine wp_ia (x := 0) (pc' := 18) rfl hb_115 rfl rfl rfl ?_
  refine wp_s (i := .iadd) (n := 1) (pc' := 19) (st' := [.int 0]) rfl rfl ?_
  refine wp_s (i := .istore_n 2) (n := 1) (pc' := 20) (ls' := [some (.ref 114), some (.int n), some (.int 0), some (.int 1)]) (st' := []) rfl rfl ?_
  refine wp_s (i := .iinc 3 1) (n := 3) (pc' := 23) (ls' := [some (.ref 114), some (.int n), some (.int 0), some (.int 2)]) (st' := []) rfl rfl ?_
  refine wp_s (i := .goto (-19)) (n := 3) (pc' := 4) (st' := []) rfl rfl ?_
  refine wp_s (i := .iload_n 3) (n := 1) (pc' := 5) (st' := [.int 2]) rfl rfl ?_
  refine wp_s (i := .iconst 5) (n := 1) (pc' := 6) (st' := [.int 5, .int 2]) rfl rfl ?_
  refine wp_s (i := .if_icmp .ge 20) (n := 3) (pc' := 9) (st' := []) rfl rfl ?_
  refine wp_s (i := .iload_n 2) (n := 1) (pc' := 10) (st' := [.int 0]) rfl rfl ?_
  refine wp_s (i := .aload_n 0) (n := 1) (pc' := 11) (st' := [.ref 114, .int 0]) rfl rfl ?_
  refine wp_gf (idx := 7) (a := 114) (v := .ref 115) (pc' := 14) rfl rfl hb_114 rfl rfl ?_
  refine wp_s (i := .iconst 5) (n := 1) (pc' := 15) (st' := [.int 5, .ref 115, .int 0]) rfl rfl ?_
  refine wp_s (i := .iload_n 3) (n := 1) (pc' := 16) (st' := [.int 2, .int 5, .ref 115, .int 0]) rfl rfl ?_
  refine wp_s (i := .iadd) (n := 1) (pc' := 17) (st' := [.int 7, .ref 115, .int 0]) rfl rfl ?_
  refine wp_ia (x := 0) (pc' := 18) rfl hb_115 rfl rfl rfl ?_
  refine wp_s (i := .iadd) (n := 1) (pc' := 19) (st' := [.int 0]) rfl rfl ?_
  refine wp_s (i := .istore_n 2) (n := 1) (pc' := 20) (ls' := [some (.ref 114), some (.int n), some (.int 0), some (.int 2)]) (st' := []) rfl rfl ?_
  refine wp_s (i := .iinc 3 1) (n := 3) (pc' := 23) (ls' := [some (.ref 114), some (.int n), some (.int 0), some (.int 3)]) (st' := []) rfl rfl ?_
  refine wp_s (i := .goto (-19)) (n := 3) (pc' := 4) (st' := []) rfl rfl ?_
  refine wp_s (i := .iload_n 3) (n := 1) (pc' := 5) (st' := [.int 3]) rfl rfl ?_
  refine wp_s (i := .iconst 5) (n := 1) (pc' := 6) (st' := [.int 5, .int 3]) rfl rfl ?_
  refine wp_s (i := .if_icmp .ge 20) (n := 3) (pc' := 9) (st' := []) rfl rfl ?_
  refine wp_s (i := .iload_n 2) (n := 1) (pc' := 10) (st' := [.int 0]) rfl rfl ?_
  refine wp_s (i := .aload_n 0) (n := 1) (pc' := 11) (st' := [.ref 114, .int 0]) rfl rfl ?_
  refine wp_gf (idx := 7) (a := 114) (v := .ref 115) (pc' := 14) rfl rfl hb_114 rfl rfl ?_
  refine wp_s (i := .iconst 5) (n := 1) (pc' := 15) (st' := [.int 5, .ref 115, .int 0]) rfl rfl ?_
  refine wp_s (i := .iload_n 3) (n := 1) (pc' := 16) (st' := [.int 3, .int 5, .ref 115, .int 0]) rfl rfl ?_
  refine wp_s (i := .iadd) (n := 1) (pc' := 17) (st' := [.int 8, .ref 115, .int 0]) rfl rfl ?_
  refine wp_ia (x := 0) (pc' := 18) rfl hb_115 rfl rfl rfl ?_
  refine wp_s (i := .iadd) (n := 1) (pc' := 19) (st' := [.int 0]) rfl rfl ?_
  refine wp_s (i := .istore_n 2) (n := 1) (pc' := 20) (ls' := [some (.ref 114), some (.int n), some (.int 0), some (.int 3)]) (st' := []) rfl rfl ?_
  refine wp_s (i := .iinc 3 1) (n := 3) (pc' := 23) (ls' := [some (.ref 114), some (.int n), some (.int 0), some (.int 4)]) (st' := []) rfl rfl ?_
  refine wp_s (i := .goto (-19)) (n := 3) (pc' := 4) (st' := []) rfl rfl ?_
  refine wp_s (i := .iload_n 3) (n := 1) (pc' := 5) (st' := [.int 4]) rfl rfl ?_
  refine wp_s (i := .iconst 5) (n := 1) (pc' := 6) (st' := [.int 5, .int 4]) rfl rfl ?_
  refine wp_s (i := .if_icmp .ge 20) (n := 3) (pc' := 9) (st' := []) rfl rfl ?_
  refine wp_s (i := .iload_n 2) (n := 1) (pc' := 10) (st' := [.int 0]) rfl rfl ?_
  refine wp_s (i := .aload_n 0) (n := 1) (pc' := 11) (st' := [.ref 114, .int 0]) rfl rfl ?_
  refine wp_gf (idx := 7) (a := 114) (v := .ref 115) (pc' := 14) rfl rfl hb_114 rfl rfl ?_
  refine wp_s (i := .iconst 5) (n := 1) (pc' := 15) (st' := [.int 5, .ref 115, .int 0]) rfl rfl ?_
  refine wp_s (i := .iload_n 3) (n := 1) (pc' := 16) (st' := [.int 4, .int 5, .ref 115, .int 0]) rfl rfl ?_
  refine wp_s (i := .iadd) (n := 1) (pc' := 17) (st' := [.int 9, .ref 115, .int 0]) rfl rfl ?_
  refine wp_ia (x := 0) (pc' := 18) rfl hb_115 rfl rfl rfl ?_
  refine wp_s (i := .iadd) (n := 1) (pc' := 19) (st' := [.int 0]) rfl rfl ?_
  refine wp_s (i := .istore_n 2) (n := 1) (pc' := 20) (ls' := [some (.ref 114), some (.int n), some (.int 0), some (.int 4)]) (st' := []) rfl rfl ?_
  refine wp_s (i := .iinc 3 1) (n := 3) (pc' := 23) (ls' := [some (.ref 114), some (.int n), some (.int 0), some (.int 5)]) (st' := []) rfl rfl ?_
  refine wp_s (i := .goto (-19)) (n := 3) (pc' := 4) (st' := []) rfl rfl ?_
  refine wp_s (i := .iload_n 3) (n := 1) (pc' := 5) (st' := [.int 5]) rfl rfl ?_
  refine wp_s (i := .iconst 5) (n := 1) (pc' := 6) (st' := [.int 5, .int 5]) rfl rfl ?_
  refine wp_s (i := .if_icmp .ge 20) (n := 3) (pc' := 26) (st' := []) rfl rfl ?_
  refine wp_s (i := .iload_n 1) (n := 1) (pc' := 27) (st' := [.int n]) rfl rfl ?_
  refine wp_ts (t := 128) (st := []) rfl (by unfold mm_sw; rw [if_pos (by omega)]; rfl) ?_
  refine wp_s (i := .iconst (-1)) (n := 1) (pc' := 129) (st' := [.int (-1)]) rfl rfl ?_
  refine wp_r (i := .ireturn) (n := 1) (v := some (.int (-1))) rfl rfl ?_
  exact ⟨rfl, pk_ok0⟩
theorem pk_37 (X : Option (List Int32)) (n : Int32) : mm_Wp X 12 mm_r102 0 [some (.ref 0), some (.int n)] [] hp_0 (fun v1 h1 => ∃ x : Int32, v1 = some (.int x) ∧ (∃ fs, h1[114]? = some (.inr (10, fs))) ∧ mm_Wp X 12 mm_r191 0 [some (.ref 114), some (.int n), none, none] [] h1 (fun v2 h2 => v2 = some (.int x) ∧ pk_ok h2)) := by
  by_cases he0 : n = 0
  · subst he0; exact pk_37_0 X 
  by_cases he1 : n = 1
  · subst he1; exact pk_37_1 X 
  by_cases he2 : n = 2
  · subst he2; exact pk_37_2 X 
  by_cases he3 : n = 3
  · subst he3; exact pk_37_3 X 
  by_cases he4 : n = 4
  · subst he4; exact pk_37_4 X 
  exact pk_37_o X n he0 he1 he2 he3 he4
