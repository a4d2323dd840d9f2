def pk_Q (v : Option Value) (h : mm_H) : Prop := v = some (.int 1) ∧ h.length ≤ 600000 ∧ mm_sz h ≤ 7302250
theorem pk_end (s0 s1 s2 s3 s4 : Int32) (h : mm_H) (hok : pk_ok h) : mm_Wp (some [s0, s1, s2, s3, s4]) 13 mm_rL 1310 [some (.retAddr 0), some (.ref 0), some (.ref 114), some (.int 0)] [] h pk_Q := by
  refine wp_s (i := .iinc 3 5) (n := 3) (pc' := 1313) (ls' := [some (.retAddr 0), some (.ref 0), some (.ref 114), some (.int 5)]) (st' := []) rfl rfl ?_
  refine wp_s (i := .goto (-1295)) (n := 3) (pc' := 18) (st' := []) rfl rfl ?_
  refine wp_s (i := .iload_n 3) (n := 1) (pc' := 19) (st' := [.int 5]) rfl rfl ?_
  refine wp_s (i := .aload_n 0) (n := 1) (pc' := 20) (st' := [.retAddr 0, .int 5]) rfl rfl ?_
  refine wp_s (i := .arraylength) (n := 1) (pc' := 21) (st' := [.int 5, .int 5]) rfl rfl ?_
  refine wp_s (i := .iconst 5) (n := 1) (pc' := 22) (st' := [.int 5, .int 5, .int 5]) rfl rfl ?_
  refine wp_s (i := .isub) (n := 1) (pc' := 23) (st' := [.int 0, .int 5]) rfl rfl ?_
  refine wp_s (i := .if_icmp .gt 1293) (n := 3) (pc' := 1316) (st' := []) rfl rfl ?_
  refine wp_s (i := .iconst 1) (n := 1) (pc' := 1317) (st' := [.int 1]) rfl rfl ?_
  refine wp_r (i := .ireturn) (n := 1) (v := some (.int 1)) rfl rfl ?_
  exact ⟨rfl, by rw [hok.1]; omega, by rw [hok.2]; omega⟩
set_option maxRecDepth 20000 in
theorem pl_0 (s0 s1 s2 s3 s4 : Int32) : mm_Wp (some [s0, s1, s2, s3, s4]) 13 mm_rL 200 [some (.retAddr 0), some (.ref 0), some (.ref 114), some (.int 0)] [] hp_0 pk_Q := by
  refine wp_s (i := .aload_n 1) (n := 1) (pc' := 201) (st' := [.ref 0]) rfl rfl ?_
  refine wp_s (i := .aload_n 0) (n := 1) (pc' := 202) (st' := [.retAddr 0, .ref 0]) rfl rfl ?_
  refine wp_s (i := .iload_n 3) (n := 1) (pc' := 203) (st' := [.int 0, .retAddr 0, .ref 0]) rfl rfl ?_
  refine wp_s (i := .iconst 1) (n := 1) (pc' := 204) (st' := [.int 1, .int 0, .retAddr 0, .ref 0]) rfl rfl ?_
  refine wp_s (i := .iadd) (n := 1) (pc' := 205) (st' := [.int 1, .retAddr 0, .ref 0]) rfl rfl ?_
  refine wp_s (i := .iaload) (n := 1) (pc' := 206) (st' := [.int s1, .ref 0]) rfl rfl ?_
  refine wp_s (i := .i2l) (n := 1) (pc' := 207) (st' := [.long ((s1).toInt64), .ref 0]) rfl rfl ?_
  refine wp_s (i := .bipush 32) (n := 2) (pc' := 209) (st' := [.int 32, .long ((s1).toInt64), .ref 0]) rfl rfl ?_
  refine wp_s (i := .lshl) (n := 1) (pc' := 210) (st' := [.long ((s1).toInt64 <<< ((32 : Int32).toInt64 &&& 63)), .ref 0]) rfl rfl ?_
  refine wp_s (i := .aload_n 0) (n := 1) (pc' := 211) (st' := [.retAddr 0, .long ((s1).toInt64 <<< ((32 : Int32).toInt64 &&& 63)), .ref 0]) rfl rfl ?_
  refine wp_s (i := .iload_n 3) (n := 1) (pc' := 212) (st' := [.int 0, .retAddr 0, .long ((s1).toInt64 <<< ((32 : Int32).toInt64 &&& 63)), .ref 0]) rfl rfl ?_
  refine wp_s (i := .iconst 2) (n := 1) (pc' := 213) (st' := [.int 2, .int 0, .retAddr 0, .long ((s1).toInt64 <<< ((32 : Int32).toInt64 &&& 63)), .ref 0]) rfl rfl ?_
  refine wp_s (i := .iadd) (n := 1) (pc' := 214) (st' := [.int 2, .retAddr 0, .long ((s1).toInt64 <<< ((32 : Int32).toInt64 &&& 63)), .ref 0]) rfl rfl ?_
  refine wp_s (i := .iaload) (n := 1) (pc' := 215) (st' := [.int s2, .long ((s1).toInt64 <<< ((32 : Int32).toInt64 &&& 63)), .ref 0]) rfl rfl ?_
  refine wp_s (i := .i2l) (n := 1) (pc' := 216) (st' := [.long ((s2).toInt64), .long ((s1).toInt64 <<< ((32 : Int32).toInt64 &&& 63)), .ref 0]) rfl rfl ?_
  refine wp_s (i := .ldc2_w 13) (n := 3) (pc' := 219) (st' := [.long 4294967295, .long ((s2).toInt64), .long ((s1).toInt64 <<< ((32 : Int32).toInt64 &&& 63)), .ref 0]) rfl rfl ?_
  refine wp_s (i := .land) (n := 1) (pc' := 220) (st' := [.long ((s2).toInt64 &&& 4294967295), .long ((s1).toInt64 <<< ((32 : Int32).toInt64 &&& 63)), .ref 0]) rfl rfl ?_
  refine wp_s (i := .lor) (n := 1) (pc' := 221) (st' := [.long (((s1).toInt64 <<< ((32 : Int32).toInt64 &&& 63)) ||| ((s2).toInt64 &&& 4294967295)), .ref 0]) rfl rfl ?_
  refine wp_c (i := .invokevirtual 15) (n := 3) (Dq := 12) (r' := mm_r64) (as := [.ref 0, .long (((s1).toInt64 <<< ((32 : Int32).toInt64 &&& 63)) ||| ((s2).toInt64 &&& 4294967295))]) (rest := []) (ls' := [some (.ref 0), some (.long (((s1).toInt64 <<< ((32 : Int32).toInt64 &&& 63)) ||| ((s2).toInt64 &&& 4294967295))), none, none]) rfl rfl rfl ?_
  refine (pk_0 (some [s0, s1, s2, s3, s4]) (((s1).toInt64 <<< ((32 : Int32).toInt64 &&& 63)) ||| ((s2).toInt64 &&& 4294967295))).mono ?_
  rintro _ h1 ⟨x, rfl, ⟨fs, hfs⟩, hq⟩
  show mm_Wp (some [s0, s1, s2, s3, s4]) 13 mm_r195 224 [some (.retAddr 0), some (.ref 0), some (.ref 114), some (.int 0)] [.int x] h1 _
  refine wp_s (i := .aload_n 2) (n := 1) (pc' := 225) (st' := [.ref 114, .int x]) rfl rfl ?_
  refine wp_s (i := .aload_n 0) (n := 1) (pc' := 226) (st' := [.retAddr 0, .ref 114, .int x]) rfl rfl ?_
  refine wp_s (i := .iload_n 3) (n := 1) (pc' := 227) (st' := [.int 0, .retAddr 0, .ref 114, .int x]) rfl rfl ?_
  refine wp_s (i := .iconst 1) (n := 1) (pc' := 228) (st' := [.int 1, .int 0, .retAddr 0, .ref 114, .int x]) rfl rfl ?_
  refine wp_s (i := .iadd) (n := 1) (pc' := 229) (st' := [.int 1, .retAddr 0, .ref 114, .int x]) rfl rfl ?_
  refine wp_s (i := .iaload) (n := 1) (pc' := 230) (st' := [.int s1, .ref 114, .int x]) rfl rfl ?_
  refine wp_s (i := .i2l) (n := 1) (pc' := 231) (st' := [.long ((s1).toInt64), .ref 114, .int x]) rfl rfl ?_
  refine wp_s (i := .bipush 32) (n := 2) (pc' := 233) (st' := [.int 32, .long ((s1).toInt64), .ref 114, .int x]) rfl rfl ?_
  refine wp_s (i := .lshl) (n := 1) (pc' := 234) (st' := [.long ((s1).toInt64 <<< ((32 : Int32).toInt64 &&& 63)), .ref 114, .int x]) rfl rfl ?_
  refine wp_s (i := .aload_n 0) (n := 1) (pc' := 235) (st' := [.retAddr 0, .long ((s1).toInt64 <<< ((32 : Int32).toInt64 &&& 63)), .ref 114, .int x]) rfl rfl ?_
  refine wp_s (i := .iload_n 3) (n := 1) (pc' := 236) (st' := [.int 0, .retAddr 0, .long ((s1).toInt64 <<< ((32 : Int32).toInt64 &&& 63)), .ref 114, .int x]) rfl rfl ?_
  refine wp_s (i := .iconst 2) (n := 1) (pc' := 237) (st' := [.int 2, .int 0, .retAddr 0, .long ((s1).toInt64 <<< ((32 : Int32).toInt64 &&& 63)), .ref 114, .int x]) rfl rfl ?_
  refine wp_s (i := .iadd) (n := 1) (pc' := 238) (st' := [.int 2, .retAddr 0, .long ((s1).toInt64 <<< ((32 : Int32).toInt64 &&& 63)), .ref 114, .int x]) rfl rfl ?_
  refine wp_s (i := .iaload) (n := 1) (pc' := 239) (st' := [.int s2, .long ((s1).toInt64 <<< ((32 : Int32).toInt64 &&& 63)), .ref 114, .int x]) rfl rfl ?_
  refine wp_s (i := .i2l) (n := 1) (pc' := 240) (st' := [.long ((s2).toInt64), .long ((s1).toInt64 <<< ((32 : Int32).toInt64 &&& 63)), .ref 114, .int x]) rfl rfl ?_
  refine wp_s (i := .ldc2_w 13) (n := 3) (pc' := 243) (st' := [.long 4294967295, .long ((s2).toInt64), .long ((s1).toInt64 <<< ((32 : Int32).toInt64 &&& 63)), .ref 114, .int x]) rfl rfl ?_
  refine wp_s (i := .land) (n := 1) (pc' := 244) (st' := [.long ((s2).toInt64 &&& 4294967295), .long ((s1).toInt64 <<< ((32 : Int32).toInt64 &&& 63)), .ref 114, .int x]) rfl rfl ?_
  refine wp_s (i := .lor) (n := 1) (pc' := 245) (st' := [.long (((s1).toInt64 <<< ((32 : Int32).toInt64 &&& 63)) ||| ((s2).toInt64 &&& 4294967295)), .ref 114, .int x]) rfl rfl ?_
  refine wp_cv (idx := 19) (Dq := 12) (r' := mm_r121) (as0 := [.long (((s1).toInt64 <<< ((32 : Int32).toInt64 &&& 63)) ||| ((s2).toInt64 &&& 4294967295))]) (rest := [.int x]) (ls' := [some (.ref 114), some (.long (((s1).toInt64 <<< ((32 : Int32).toInt64 &&& 63)) ||| ((s2).toInt64 &&& 4294967295))), none, none]) (pc' := 248) rfl rfl rfl rfl hfs rfl rfl rfl ?_
  refine hq.mono ?_
  rintro _ h2 ⟨rfl, hok⟩
  show mm_Wp (some [s0, s1, s2, s3, s4]) 13 mm_r195 248 [some (.retAddr 0), some (.ref 0), some (.ref 114), some (.int 0)] [.int x, .int x] h2 _
  refine wp_ic (t := 1310) (st := []) rfl rfl (fun _ => ?_) (fun hc => by simp [mm_cc] at hc)
  exact pk_end s0 s1 s2 s3 s4 h2 hok
set_option maxRecDepth 20000 in
theorem pl_1 (s0 s1 s2 s3 s4 : Int32) : mm_Wp (some [s0, s1, s2, s3, s4]) 13 mm_rL 253 [some (.retAddr 0), some (.ref 0), some (.ref 114), some (.int 0)] [] hp_0 pk_Q := by
  refine wp_s (i := .aload_n 1) (n := 1) (pc' := 254) (st' := [.ref 0]) rfl rfl ?_
  refine wp_s (i := .aload_n 0) (n := 1) (pc' := 255) (st' := [.retAddr 0, .ref 0]) rfl rfl ?_
  refine wp_s (i := .iload_n 3) (n := 1) (pc' := 256) (st' := [.int 0, .retAddr 0, .ref 0]) rfl rfl ?_
  refine wp_s (i := .iconst 1) (n := 1) (pc' := 257) (st' := [.int 1, .int 0, .retAddr 0, .ref 0]) rfl rfl ?_
  refine wp_s (i := .iadd) (n := 1) (pc' := 258) (st' := [.int 1, .retAddr 0, .ref 0]) rfl rfl ?_
  refine wp_s (i := .iaload) (n := 1) (pc' := 259) (st' := [.int s1, .ref 0]) rfl rfl ?_
  refine wp_c (i := .invokevirtual 20) (n := 3) (Dq := 12) (r' := mm_r65) (as := [.ref 0, .int s1]) (rest := []) (ls' := [some (.ref 0), some (.int s1), none]) rfl rfl rfl ?_
  refine (pk_1 (some [s0, s1, s2, s3, s4]) s1).mono ?_
  rintro _ h1 ⟨x, rfl, ⟨fs, hfs⟩, hq⟩
  show mm_Wp (some [s0, s1, s2, s3, s4]) 13 mm_r195 262 [some (.retAddr 0), some (.ref 0), some (.ref 114), some (.int 0)] [.int x] h1 _
  refine wp_s (i := .aload_n 2) (n := 1) (pc' := 263) (st' := [.ref 114, .int x]) rfl rfl ?_
  refine wp_s (i := .aload_n 0) (n := 1) (pc' := 264) (st' := [.retAddr 0, .ref 114, .int x]) rfl rfl ?_
  refine wp_s (i := .iload_n 3) (n := 1) (pc' := 265) (st' := [.int 0, .retAddr 0, .ref 114, .int x]) rfl rfl ?_
  refine wp_s (i := .iconst 1) (n := 1) (pc' := 266) (st' := [.int 1, .int 0, .retAddr 0, .ref 114, .int x]) rfl rfl ?_
  refine wp_s (i := .iadd) (n := 1) (pc' := 267) (st' := [.int 1, .retAddr 0, .ref 114, .int x]) rfl rfl ?_
  refine wp_s (i := .iaload) (n := 1) (pc' := 268) (st' := [.int s1, .ref 114, .int x]) rfl rfl ?_
  refine wp_cv (idx := 24) (Dq := 12) (r' := mm_r122) (as0 := [.int s1]) (rest := [.int x]) (ls' := [some (.ref 114), some (.int s1), none]) (pc' := 271) rfl rfl rfl rfl hfs rfl rfl rfl ?_
  refine hq.mono ?_
  rintro _ h2 ⟨rfl, hok⟩
  show mm_Wp (some [s0, s1, s2, s3, s4]) 13 mm_r195 271 [some (.retAddr 0), some (.ref 0), some (.ref 114), some (.int 0)] [.int x, .int x] h2 _
  refine wp_ic (t := 1310) (st := []) rfl rfl (fun _ => ?_) (fun hc => by simp [mm_cc] at hc)
  exact pk_end s0 s1 s2 s3 s4 h2 hok
set_option maxRecDepth 20000 in
theorem pl_2 (s0 s1 s2 s3 s4 : Int32) : mm_Wp (some [s0, s1, s2, s3, s4]) 13 mm_rL 276 [some (.retAddr 0), some (.ref 0), some (.ref 114), some (.int 0)] [] hp_0 pk_Q := by
  refine wp_s (i := .aload_n 1) (n := 1) (pc' := 277) (st' := [.ref 0]) rfl rfl ?_
  refine wp_c (i := .invokevirtual 25) (n := 3) (Dq := 12) (r' := mm_r66) (as := [.ref 0]) (rest := []) (ls' := [some (.ref 0), none]) rfl rfl rfl ?_
  refine (pk_2 (some [s0, s1, s2, s3, s4]) ).mono ?_
  rintro _ h1 ⟨x, rfl, ⟨fs, hfs⟩, hq⟩
  show mm_Wp (some [s0, s1, s2, s3, s4]) 13 mm_r195 280 [some (.retAddr 0), some (.ref 0), some (.ref 114), some (.int 0)] [.int x] h1 _
  refine wp_s (i := .aload_n 2) (n := 1) (pc' := 281) (st' := [.ref 114, .int x]) rfl rfl ?_
  refine wp_cv (idx := 29) (Dq := 12) (r' := mm_r135) (as0 := []) (rest := [.int x]) (ls' := [some (.ref 114), none, none]) (pc' := 284) rfl rfl rfl rfl hfs rfl rfl rfl ?_
  refine hq.mono ?_
  rintro _ h2 ⟨rfl, hok⟩
  show mm_Wp (some [s0, s1, s2, s3, s4]) 13 mm_r195 284 [some (.retAddr 0), some (.ref 0), some (.ref 114), some (.int 0)] [.int x, .int x] h2 _
  refine wp_ic (t := 1310) (st := []) rfl rfl (fun _ => ?_) (fun hc => by simp [mm_cc] at hc)
  exact pk_end s0 s1 s2 s3 s4 h2 hok
set_option maxRecDepth 20000 in
theorem pl_3 (s0 s1 s2 s3 s4 : Int32) : mm_Wp (some [s0, s1, s2, s3, s4]) 13 mm_rL 289 [some (.retAddr 0), some (.ref 0), some (.ref 114), some (.int 0)] [] hp_0 pk_Q := by
  refine wp_s (i := .aload_n 1) (n := 1) (pc' := 290) (st' := [.ref 0]) rfl rfl ?_
  refine wp_c (i := .invokevirtual 30) (n := 3) (Dq := 12) (r' := mm_r68) (as := [.ref 0]) (rest := []) (ls' := [some (.ref 0)]) rfl rfl rfl ?_
  refine (pk_3 (some [s0, s1, s2, s3, s4]) ).mono ?_
  rintro _ h1 ⟨x, rfl, ⟨fs, hfs⟩, hq⟩
  show mm_Wp (some [s0, s1, s2, s3, s4]) 13 mm_r195 293 [some (.retAddr 0), some (.ref 0), some (.ref 114), some (.int 0)] [.int x] h1 _
  refine wp_s (i := .aload_n 2) (n := 1) (pc' := 294) (st' := [.ref 114, .int x]) rfl rfl ?_
  refine wp_cv (idx := 33) (Dq := 12) (r' := mm_r136) (as0 := []) (rest := [.int x]) (ls' := [some (.ref 114)]) (pc' := 297) rfl rfl rfl rfl hfs rfl rfl rfl ?_
  refine hq.mono ?_
  rintro _ h2 ⟨rfl, hok⟩
  show mm_Wp (some [s0, s1, s2, s3, s4]) 13 mm_r195 297 [some (.retAddr 0), some (.ref 0), some (.ref 114), some (.int 0)] [.int x, .int x] h2 _
  refine wp_ic (t := 1310) (st := []) rfl rfl (fun _ => ?_) (fun hc => by simp [mm_cc] at hc)
  exact pk_end s0 s1 s2 s3 s4 h2 hok
set_option maxRecDepth 20000 in
theorem pl_4 (s0 s1 s2 s3 s4 : Int32) : mm_Wp (some [s0, s1, s2, s3, s4]) 13 mm_rL 302 [some (.retAddr 0), some (.ref 0), some (.ref 114), some (.int 0)] [] hp_0 pk_Q := by
  refine wp_s (i := .aload_n 1) (n := 1) (pc' := 303) (st' := [.ref 0]) rfl rfl ?_
  refine wp_s (i := .aload_n 0) (n := 1) (pc' := 304) (st' := [.retAddr 0, .ref 0]) rfl rfl ?_
  refine wp_s (i := .iload_n 3) (n := 1) (pc' := 305) (st' := [.int 0, .retAddr 0, .ref 0]) rfl rfl ?_
  refine wp_s (i := .iconst 1) (n := 1) (pc' := 306) (st' := [.int 1, .int 0, .retAddr 0, .ref 0]) rfl rfl ?_
  refine wp_s (i := .iadd) (n := 1) (pc' := 307) (st' := [.int 1, .retAddr 0, .ref 0]) rfl rfl ?_
  refine wp_s (i := .iaload) (n := 1) (pc' := 308) (st' := [.int s1, .ref 0]) rfl rfl ?_
  refine wp_c (i := .invokevirtual 34) (n := 3) (Dq := 12) (r' := mm_r69) (as := [.ref 0, .int s1]) (rest := []) (ls' := [some (.ref 0), some (.int s1)]) rfl rfl rfl ?_
  refine (pk_4 (some [s0, s1, s2, s3, s4]) s1).mono ?_
  rintro _ h1 ⟨x, rfl, ⟨fs, hfs⟩, hq⟩
  show mm_Wp (some [s0, s1, s2, s3, s4]) 13 mm_r195 311 [some (.retAddr 0), some (.ref 0), some (.ref 114), some (.int 0)] [.int x] h1 _
  refine wp_s (i := .aload_n 2) (n := 1) (pc' := 312) (st' := [.ref 114, .int x]) rfl rfl ?_
  refine wp_s (i := .aload_n 0) (n := 1) (pc' := 313) (st' := [.retAddr 0, .ref 114, .int x]) rfl rfl ?_
  refine wp_s (i := .iload_n 3) (n := 1) (pc' := 314) (st' := [.int 0, .retAddr 0, .ref 114, .int x]) rfl rfl ?_
  refine wp_s (i := .iconst 1) (n := 1) (pc' := 315) (st' := [.int 1, .int 0, .retAddr 0, .ref 114, .int x]) rfl rfl ?_
  refine wp_s (i := .iadd) (n := 1) (pc' := 316) (st' := [.int 1, .retAddr 0, .ref 114, .int x]) rfl rfl ?_
  refine wp_s (i := .iaload) (n := 1) (pc' := 317) (st' := [.int s1, .ref 114, .int x]) rfl rfl ?_
  refine wp_cv (idx := 37) (Dq := 12) (r' := mm_r137) (as0 := [.int s1]) (rest := [.int x]) (ls' := [some (.ref 114), some (.int s1)]) (pc' := 320) rfl rfl rfl rfl hfs rfl rfl rfl ?_
  refine hq.mono ?_
  rintro _ h2 ⟨rfl, hok⟩
  show mm_Wp (some [s0, s1, s2, s3, s4]) 13 mm_r195 320 [some (.retAddr 0), some (.ref 0), some (.ref 114), some (.int 0)] [.int x, .int x] h2 _
  refine wp_ic (t := 1310) (st := []) rfl rfl (fun _ => ?_) (fun hc => by simp [mm_cc] at hc)
  exact pk_end s0 s1 s2 s3 s4 h2 hok
set_option maxRecDepth 20000 in
theorem pl_5 (s0 s1 s2 s3 s4 : Int32) : mm_Wp (some [s0, s1, s2, s3, s4]) 13 mm_rL 325 [some (.retAddr 0), some (.ref 0), some (.ref 114), some (.int 0)] [] hp_0 pk_Q := by
  refine wp_s (i := .aload_n 1) (n := 1) (pc' := 326) (st' := [.ref 0]) rfl rfl ?_
  refine wp_s (i := .aload_n 0) (n := 1) (pc' := 327) (st' := [.retAddr 0, .ref 0]) rfl rfl ?_
  refine wp_s (i := .iload_n 3) (n := 1) (pc' := 328) (st' := [.int 0, .retAddr 0, .ref 0]) rfl rfl ?_
  refine wp_s (i := .iconst 1) (n := 1) (pc' := 329) (st' := [.int 1, .int 0, .retAddr 0, .ref 0]) rfl rfl ?_
  refine wp_s (i := .iadd) (n := 1) (pc' := 330) (st' := [.int 1, .retAddr 0, .ref 0]) rfl rfl ?_
  refine wp_s (i := .iaload) (n := 1) (pc' := 331) (st' := [.int s1, .ref 0]) rfl rfl ?_
  refine wp_s (i := .aload_n 0) (n := 1) (pc' := 332) (st' := [.retAddr 0, .int s1, .ref 0]) rfl rfl ?_
  refine wp_s (i := .iload_n 3) (n := 1) (pc' := 333) (st' := [.int 0, .retAddr 0, .int s1, .ref 0]) rfl rfl ?_
  refine wp_s (i := .iconst 2) (n := 1) (pc' := 334) (st' := [.int 2, .int 0, .retAddr 0, .int s1, .ref 0]) rfl rfl ?_
  refine wp_s (i := .iadd) (n := 1) (pc' := 335) (st' := [.int 2, .retAddr 0, .int s1, .ref 0]) rfl rfl ?_
  refine wp_s (i := .iaload) (n := 1) (pc' := 336) (st' := [.int s2, .int s1, .ref 0]) rfl rfl ?_
  refine wp_c (i := .invokevirtual 38) (n := 3) (Dq := 12) (r' := mm_r70) (as := [.ref 0, .int s1, .int s2]) (rest := []) (ls' := [some (.ref 0), some (.int s1), some (.int s2)]) rfl rfl rfl ?_
  refine (pk_5 (some [s0, s1, s2, s3, s4]) s1 s2).mono ?_
  rintro _ h1 ⟨x, rfl, ⟨fs, hfs⟩, hq⟩
  show mm_Wp (some [s0, s1, s2, s3, s4]) 13 mm_r195 339 [some (.retAddr 0), some (.ref 0), some (.ref 114), some (.int 0)] [.int x] h1 _
  refine wp_s (i := .aload_n 2) (n := 1) (pc' := 340) (st' := [.ref 114, .int x]) rfl rfl ?_
  refine wp_s (i := .aload_n 0) (n := 1) (pc' := 341) (st' := [.retAddr 0, .ref 114, .int x]) rfl rfl ?_
  refine wp_s (i := .iload_n 3) (n := 1) (pc' := 342) (st' := [.int 0, .retAddr 0, .ref 114, .int x]) rfl rfl ?_
  refine wp_s (i := .iconst 1) (n := 1) (pc' := 343) (st' := [.int 1, .int 0, .retAddr 0, .ref 114, .int x]) rfl rfl ?_
  refine wp_s (i := .iadd) (n := 1) (pc' := 344) (st' := [.int 1, .retAddr 0, .ref 114, .int x]) rfl rfl ?_
  refine wp_s (i := .iaload) (n := 1) (pc' := 345) (st' := [.int s1, .ref 114, .int x]) rfl rfl ?_
  refine wp_s (i := .aload_n 0) (n := 1) (pc' := 346) (st' := [.retAddr 0, .int s1, .ref 114, .int x]) rfl rfl ?_
  refine wp_s (i := .iload_n 3) (n := 1) (pc' := 347) (st' := [.int 0, .retAddr 0, .int s1, .ref 114, .int x]) rfl rfl ?_
  refine wp_s (i := .iconst 2) (n := 1) (pc' := 348) (st' := [.int 2, .int 0, .retAddr 0, .int s1, .ref 114, .int x]) rfl rfl ?_
  refine wp_s (i := .iadd) (n := 1) (pc' := 349) (st' := [.int 2, .retAddr 0, .int s1, .ref 114, .int x]) rfl rfl ?_
  refine wp_s (i := .iaload) (n := 1) (pc' := 350) (st' := [.int s2, .int s1, .ref 114, .int x]) rfl rfl ?_
  refine wp_cv (idx := 42) (Dq := 12) (r' := mm_r141) (as0 := [.int s1, .int s2]) (rest := [.int x]) (ls' := [some (.ref 114), some (.int s1), some (.int s2)]) (pc' := 353) rfl rfl rfl rfl hfs rfl rfl rfl ?_
  refine hq.mono ?_
  rintro _ h2 ⟨rfl, hok⟩
  show mm_Wp (some [s0, s1, s2, s3, s4]) 13 mm_r195 353 [some (.retAddr 0), some (.ref 0), some (.ref 114), some (.int 0)] [.int x, .int x] h2 _
  refine wp_ic (t := 1310) (st := []) rfl rfl (fun _ => ?_) (fun hc => by simp [mm_cc] at hc)
  exact pk_end s0 s1 s2 s3 s4 h2 hok
set_option maxRecDepth 20000 in
theorem pl_6 (s0 s1 s2 s3 s4 : Int32) : mm_Wp (some [s0, s1, s2, s3, s4]) 13 mm_rL 358 [some (.retAddr 0), some (.ref 0), some (.ref 114), some (.int 0)] [] hp_0 pk_Q := by
  refine wp_s (i := .aload_n 1) (n := 1) (pc' := 359) (st' := [.ref 0]) rfl rfl ?_
  refine wp_s (i := .aload_n 0) (n := 1) (pc' := 360) (st' := [.retAddr 0, .ref 0]) rfl rfl ?_
  refine wp_s (i := .iload_n 3) (n := 1) (pc' := 361) (st' := [.int 0, .retAddr 0, .ref 0]) rfl rfl ?_
  refine wp_s (i := .iconst 1) (n := 1) (pc' := 362) (st' := [.int 1, .int 0, .retAddr 0, .ref 0]) rfl rfl ?_
  refine wp_s (i := .iadd) (n := 1) (pc' := 363) (st' := [.int 1, .retAddr 0, .ref 0]) rfl rfl ?_
  refine wp_s (i := .iaload) (n := 1) (pc' := 364) (st' := [.int s1, .ref 0]) rfl rfl ?_
  refine wp_s (i := .aload_n 0) (n := 1) (pc' := 365) (st' := [.retAddr 0, .int s1, .ref 0]) rfl rfl ?_
  refine wp_s (i := .iload_n 3) (n := 1) (pc' := 366) (st' := [.int 0, .retAddr 0, .int s1, .ref 0]) rfl rfl ?_
  refine wp_s (i := .iconst 2) (n := 1) (pc' := 367) (st' := [.int 2, .int 0, .retAddr 0, .int s1, .ref 0]) rfl rfl ?_
  refine wp_s (i := .iadd) (n := 1) (pc' := 368) (st' := [.int 2, .retAddr 0, .int s1, .ref 0]) rfl rfl ?_
  refine wp_s (i := .iaload) (n := 1) (pc' := 369) (st' := [.int s2, .int s1, .ref 0]) rfl rfl ?_
  refine wp_c (i := .invokevirtual 43) (n := 3) (Dq := 12) (r' := mm_r71) (as := [.ref 0, .int s1, .int s2]) (rest := []) (ls' := [some (.ref 0), some (.int s1), some (.int s2), none]) rfl rfl rfl ?_
  refine (pk_6 (some [s0, s1, s2, s3, s4]) s1 s2).mono ?_
  rintro _ h1 ⟨x, rfl, ⟨fs, hfs⟩, hq⟩
  show mm_Wp (some [s0, s1, s2, s3, s4]) 13 mm_r195 372 [some (.retAddr 0), some (.ref 0), some (.ref 114), some (.int 0)] [.int x] h1 _
  refine wp_s (i := .aload_n 2) (n := 1) (pc' := 373) (st' := [.ref 114, .int x]) rfl rfl ?_
  refine wp_s (i := .aload_n 0) (n := 1) (pc' := 374) (st' := [.retAddr 0, .ref 114, .int x]) rfl rfl ?_
  refine wp_s (i := .iload_n 3) (n := 1) (pc' := 375) (st' := [.int 0, .retAddr 0, .ref 114, .int x]) rfl rfl ?_
  refine wp_s (i := .iconst 1) (n := 1) (pc' := 376) (st' := [.int 1, .int 0, .retAddr 0, .ref 114, .int x]) rfl rfl ?_
  refine wp_s (i := .iadd) (n := 1) (pc' := 377) (st' := [.int 1, .retAddr 0, .ref 114, .int x]) rfl rfl ?_
  refine wp_s (i := .iaload) (n := 1) (pc' := 378) (st' := [.int s1, .ref 114, .int x]) rfl rfl ?_
  refine wp_s (i := .aload_n 0) (n := 1) (pc' := 379) (st' := [.retAddr 0, .int s1, .ref 114, .int x]) rfl rfl ?_
  refine wp_s (i := .iload_n 3) (n := 1) (pc' := 380) (st' := [.int 0, .retAddr 0, .int s1, .ref 114, .int x]) rfl rfl ?_
  refine wp_s (i := .iconst 2) (n := 1) (pc' := 381) (st' := [.int 2, .int 0, .retAddr 0, .int s1, .ref 114, .int x]) rfl rfl ?_
  refine wp_s (i := .iadd) (n := 1) (pc' := 382) (st' := [.int 2, .retAddr 0, .int s1, .ref 114, .int x]) rfl rfl ?_
  refine wp_s (i := .iaload) (n := 1) (pc' := 383) (st' := [.int s2, .int s1, .ref 114, .int x]) rfl rfl ?_
  refine wp_cv (idx := 46) (Dq := 12) (r' := mm_r142) (as0 := [.int s1, .int s2]) (rest := [.int x]) (ls' := [some (.ref 114), some (.int s1), some (.int s2)]) (pc' := 386) rfl rfl rfl rfl hfs rfl rfl rfl ?_
  refine hq.mono ?_
  rintro _ h2 ⟨rfl, hok⟩
  show mm_Wp (some [s0, s1, s2, s3, s4]) 13 mm_r195 386 [some (.retAddr 0), some (.ref 0), some (.ref 114), some (.int 0)] [.int x, .int x] h2 _
  refine wp_ic (t := 1310) (st := []) rfl rfl (fun _ => ?_) (fun hc => by simp [mm_cc] at hc)
  exact pk_end s0 s1 s2 s3 s4 h2 hok
set_option maxRecDepth 20000 in
theorem pl_7 (s0 s1 s2 s3 s4 : Int32) : mm_Wp (some [s0, s1, s2, s3, s4]) 13 mm_rL 391 [some (.retAddr 0), some (.ref 0), some (.ref 114), some (.int 0)] [] hp_0 pk_Q := by
  refine wp_s (i := .aload_n 1) (n := 1) (pc' := 392) (st' := [.ref 0]) rfl rfl ?_
  refine wp_s (i := .aload_n 0) (n := 1) (pc' := 393) (st' := [.retAddr 0, .ref 0]) rfl rfl ?_
  refine wp_s (i := .iload_n 3) (n := 1) (pc' := 394) (st' := [.int 0, .retAddr 0, .ref 0]) rfl rfl ?_
  refine wp_s (i := .iconst 1) (n := 1) (pc' := 395) (st' := [.int 1, .int 0, .retAddr 0, .ref 0]) rfl rfl ?_
  refine wp_s (i := .iadd) (n := 1) (pc' := 396) (st' := [.int 1, .retAddr 0, .ref 0]) rfl rfl ?_
  refine wp_s (i := .iaload) (n := 1) (pc' := 397) (st' := [.int s1, .ref 0]) rfl rfl ?_
  refine wp_s (i := .aload_n 0) (n := 1) (pc' := 398) (st' := [.retAddr 0, .int s1, .ref 0]) rfl rfl ?_
  refine wp_s (i := .iload_n 3) (n := 1) (pc' := 399) (st' := [.int 0, .retAddr 0, .int s1, .ref 0]) rfl rfl ?_
  refine wp_s (i := .iconst 2) (n := 1) (pc' := 400) (st' := [.int 2, .int 0, .retAddr 0, .int s1, .ref 0]) rfl rfl ?_
  refine wp_s (i := .iadd) (n := 1) (pc' := 401) (st' := [.int 2, .retAddr 0, .int s1, .ref 0]) rfl rfl ?_
  refine wp_s (i := .iaload) (n := 1) (pc' := 402) (st' := [.int s2, .int s1, .ref 0]) rfl rfl ?_
  refine wp_c (i := .invokevirtual 47) (n := 3) (Dq := 12) (r' := mm_r72) (as := [.ref 0, .int s1, .int s2]) (rest := []) (ls' := [some (.ref 0), some (.int s1), some (.int s2), none]) rfl rfl rfl ?_
  refine (pk_7 (some [s0, s1, s2, s3, s4]) s1 s2).mono ?_
  rintro _ h1 ⟨x, rfl, ⟨fs, hfs⟩, hq⟩
  show mm_Wp (some [s0, s1, s2, s3, s4]) 13 mm_r195 405 [some (.retAddr 0), some (.ref 0), some (.ref 114), some (.int 0)] [.int x] h1 _
  refine wp_s (i := .aload_n 2) (n := 1) (pc' := 406) (st' := [.ref 114, .int x]) rfl rfl ?_
  refine wp_s (i := .aload_n 0) (n := 1) (pc' := 407) (st' := [.retAddr 0, .ref 114, .int x]) rfl rfl ?_
  refine wp_s (i := .iload_n 3) (n := 1) (pc' := 408) (st' := [.int 0, .retAddr 0, .ref 114, .int x]) rfl rfl ?_
  refine wp_s (i := .iconst 1) (n := 1) (pc' := 409) (st' := [.int 1, .int 0, .retAddr 0, .ref 114, .int x]) rfl rfl ?_
  refine wp_s (i := .iadd) (n := 1) (pc' := 410) (st' := [.int 1, .retAddr 0, .ref 114, .int x]) rfl rfl ?_
  refine wp_s (i := .iaload) (n := 1) (pc' := 411) (st' := [.int s1, .ref 114, .int x]) rfl rfl ?_
  refine wp_s (i := .aload_n 0) (n := 1) (pc' := 412) (st' := [.retAddr 0, .int s1, .ref 114, .int x]) rfl rfl ?_
  refine wp_s (i := .iload_n 3) (n := 1) (pc' := 413) (st' := [.int 0, .retAddr 0, .int s1, .ref 114, .int x]) rfl rfl ?_
  refine wp_s (i := .iconst 2) (n := 1) (pc' := 414) (st' := [.int 2, .int 0, .retAddr 0, .int s1, .ref 114, .int x]) rfl rfl ?_
  refine wp_s (i := .iadd) (n := 1) (pc' := 415) (st' := [.int 2, .retAddr 0, .int s1, .ref 114, .int x]) rfl rfl ?_
  refine wp_s (i := .iaload) (n := 1) (pc' := 416) (st' := [.int s2, .int s1, .ref 114, .int x]) rfl rfl ?_
  refine wp_cv (idx := 50) (Dq := 12) (r' := mm_r143) (as0 := [.int s1, .int s2]) (rest := [.int x]) (ls' := [some (.ref 114), some (.int s1), some (.int s2), none]) (pc' := 419) rfl rfl rfl rfl hfs rfl rfl rfl ?_
  refine hq.mono ?_
  rintro _ h2 ⟨rfl, hok⟩
  show mm_Wp (some [s0, s1, s2, s3, s4]) 13 mm_r195 419 [some (.retAddr 0), some (.ref 0), some (.ref 114), some (.int 0)] [.int x, .int x] h2 _
  refine wp_ic (t := 1310) (st := []) rfl rfl (fun _ => ?_) (fun hc => by simp [mm_cc] at hc)
  exact pk_end s0 s1 s2 s3 s4 h2 hok
set_option maxRecDepth 20000 in
theorem pl_8 (s0 s1 s2 s3 s4 : Int32) : mm_Wp (some [s0, s1, s2, s3, s4]) 13 mm_rL 424 [some (.retAddr 0), some (.ref 0), some (.ref 114), some (.int 0)] [] hp_0 pk_Q := by
  refine wp_s (i := .aload_n 1) (n := 1) (pc' := 425) (st' := [.ref 0]) rfl rfl ?_
  refine wp_s (i := .aload_n 0) (n := 1) (pc' := 426) (st' := [.retAddr 0, .ref 0]) rfl rfl ?_
  refine wp_s (i := .iload_n 3) (n := 1) (pc' := 427) (st' := [.int 0, .retAddr 0, .ref 0]) rfl rfl ?_
  refine wp_s (i := .iconst 1) (n := 1) (pc' := 428) (st' := [.int 1, .int 0, .retAddr 0, .ref 0]) rfl rfl ?_
  refine wp_s (i := .iadd) (n := 1) (pc' := 429) (st' := [.int 1, .retAddr 0, .ref 0]) rfl rfl ?_
  refine wp_s (i := .iaload) (n := 1) (pc' := 430) (st' := [.int s1, .ref 0]) rfl rfl ?_
  refine wp_s (i := .aload_n 0) (n := 1) (pc' := 431) (st' := [.retAddr 0, .int s1, .ref 0]) rfl rfl ?_
  refine wp_s (i := .iload_n 3) (n := 1) (pc' := 432) (st' := [.int 0, .retAddr 0, .int s1, .ref 0]) rfl rfl ?_
  refine wp_s (i := .iconst 2) (n := 1) (pc' := 433) (st' := [.int 2, .int 0, .retAddr 0, .int s1, .ref 0]) rfl rfl ?_
  refine wp_s (i := .iadd) (n := 1) (pc' := 434) (st' := [.int 2, .retAddr 0, .int s1, .ref 0]) rfl rfl ?_
  refine wp_s (i := .iaload) (n := 1) (pc' := 435) (st' := [.int s2, .int s1, .ref 0]) rfl rfl ?_
  refine wp_if (t := 442) (st := [.int s1, .ref 0]) rfl rfl (fun hb1 => ?_) (fun hb1 => ?_)
  · skip
    show mm_Wp _ _ _ 442 _ _ _ _
    refine wp_s (i := .iconst 0) (n := 1) (pc' := 443) (st' := [.int 0, .int s1, .ref 0]) rfl rfl ?_
    refine wp_c (i := .invokevirtual 51) (n := 3) (Dq := 12) (r' := mm_r73) (as := [.ref 0, .int s1, .int 0]) (rest := []) (ls' := [some (.ref 0), some (.int s1), some (.int 0), none]) rfl rfl rfl ?_
    refine (pk_8 (some [s0, s1, s2, s3, s4]) s1 0).mono ?_
    rintro _ h1 ⟨x, rfl, ⟨fs, hfs⟩, hq⟩
    show mm_Wp (some [s0, s1, s2, s3, s4]) 13 mm_r195 446 [some (.retAddr 0), some (.ref 0), some (.ref 114), some (.int 0)] [.int x] h1 _
    refine wp_s (i := .aload_n 2) (n := 1) (pc' := 447) (st' := [.ref 114, .int x]) rfl rfl ?_
    refine wp_s (i := .aload_n 0) (n := 1) (pc' := 448) (st' := [.retAddr 0, .ref 114, .int x]) rfl rfl ?_
    refine wp_s (i := .iload_n 3) (n := 1) (pc' := 449) (st' := [.int 0, .retAddr 0, .ref 114, .int x]) rfl rfl ?_
    refine wp_s (i := .iconst 1) (n := 1) (pc' := 450) (st' := [.int 1, .int 0, .retAddr 0, .ref 114, .int x]) rfl rfl ?_
    refine wp_s (i := .iadd) (n := 1) (pc' := 451) (st' := [.int 1, .retAddr 0, .ref 114, .int x]) rfl rfl ?_
    refine wp_s (i := .iaload) (n := 1) (pc' := 452) (st' := [.int s1, .ref 114, .int x]) rfl rfl ?_
    refine wp_s (i := .aload_n 0) (n := 1) (pc' := 453) (st' := [.retAddr 0, .int s1, .ref 114, .int x]) rfl rfl ?_
    refine wp_s (i := .iload_n 3) (n := 1) (pc' := 454) (st' := [.int 0, .retAddr 0, .int s1, .ref 114, .int x]) rfl rfl ?_
    refine wp_s (i := .iconst 2) (n := 1) (pc' := 455) (st' := [.int 2, .int 0, .retAddr 0, .int s1, .ref 114, .int x]) rfl rfl ?_
    refine wp_s (i := .iadd) (n := 1) (pc' := 456) (st' := [.int 2, .retAddr 0, .int s1, .ref 114, .int x]) rfl rfl ?_
    refine wp_s (i := .iaload) (n := 1) (pc' := 457) (st' := [.int s2, .int s1, .ref 114, .int x]) rfl rfl ?_
    refine wp_if (t := 464) (st := [.int s1, .ref 114, .int x]) rfl rfl (fun hc => ?_) (fun hc => by rw [hb1] at hc; cases hc)
    show mm_Wp _ _ _ 464 _ _ _ _
    refine wp_s (i := .iconst 0) (n := 1) (pc' := 465) (st' := [.int 0, .int s1, .ref 114, .int x]) rfl rfl ?_
    refine wp_cv (idx := 55) (Dq := 12) (r' := mm_r144) (as0 := [.int s1, .int 0]) (rest := [.int x]) (ls' := [some (.ref 114), some (.int s1), some (.int 0), none]) (pc' := 468) rfl rfl rfl rfl hfs rfl rfl rfl ?_
    refine hq.mono ?_
    rintro _ h2 ⟨rfl, hok⟩
    show mm_Wp (some [s0, s1, s2, s3, s4]) 13 mm_r195 468 [some (.retAddr 0), some (.ref 0), some (.ref 114), some (.int 0)] [.int x, .int x] h2 _
    refine wp_ic (t := 1310) (st := []) rfl rfl (fun _ => ?_) (fun hc => by simp [mm_cc] at hc)
    exact pk_end s0 s1 s2 s3 s4 h2 hok
  · skip
    show mm_Wp _ _ _ 438 _ _ _ _
    refine wp_s (i := .iconst 1) (n := 1) (pc' := 439) (st' := [.int 1, .int s1, .ref 0]) rfl rfl ?_
    refine wp_s (i := .goto 4) (n := 3) (pc' := 443) (st' := [.int 1, .int s1, .ref 0]) rfl rfl ?_
    refine wp_c (i := .invokevirtual 51) (n := 3) (Dq := 12) (r' := mm_r73) (as := [.ref 0, .int s1, .int 1]) (rest := []) (ls' := [some (.ref 0), some (.int s1), some (.int 1), none]) rfl rfl rfl ?_
    refine (pk_8 (some [s0, s1, s2, s3, s4]) s1 1).mono ?_
    rintro _ h1 ⟨x, rfl, ⟨fs, hfs⟩, hq⟩
    show mm_Wp (some [s0, s1, s2, s3, s4]) 13 mm_r195 446 [some (.retAddr 0), some (.ref 0), some (.ref 114), some (.int 0)] [.int x] h1 _
    refine wp_s (i := .aload_n 2) (n := 1) (pc' := 447) (st' := [.ref 114, .int x]) rfl rfl ?_
    refine wp_s (i := .aload_n 0) (n := 1) (pc' := 448) (st' := [.retAddr 0, .ref 114, .int x]) rfl rfl ?_
    refine wp_s (i := .iload_n 3) (n := 1) (pc' := 449) (st' := [.int 0, .retAddr 0, .ref 114, .int x]) rfl rfl ?_
    refine wp_s (i := .iconst 1) (n := 1) (pc' := 450) (st' := [.int 1, .int 0, .retAddr 0, .ref 114, .int x]) rfl rfl ?_
    refine wp_s (i := .iadd) (n := 1) (pc' := 451) (st' := [.int 1, .retAddr 0, .ref 114, .int x]) rfl rfl ?_
    refine wp_s (i := .iaload) (n := 1) (pc' := 452) (st' := [.int s1, .ref 114, .int x]) rfl rfl ?_
    refine wp_s (i := .aload_n 0) (n := 1) (pc' := 453) (st' := [.retAddr 0, .int s1, .ref 114, .int x]) rfl rfl ?_
    refine wp_s (i := .iload_n 3) (n := 1) (pc' := 454) (st' := [.int 0, .retAddr 0, .int s1, .ref 114, .int x]) rfl rfl ?_
    refine wp_s (i := .iconst 2) (n := 1) (pc' := 455) (st' := [.int 2, .int 0, .retAddr 0, .int s1, .ref 114, .int x]) rfl rfl ?_
    refine wp_s (i := .iadd) (n := 1) (pc' := 456) (st' := [.int 2, .retAddr 0, .int s1, .ref 114, .int x]) rfl rfl ?_
    refine wp_s (i := .iaload) (n := 1) (pc' := 457) (st' := [.int s2, .int s1, .ref 114, .int x]) rfl rfl ?_
    refine wp_if (t := 464) (st := [.int s1, .ref 114, .int x]) rfl rfl (fun hc => by rw [hb1] at hc; cases hc) (fun hc => ?_)
    show mm_Wp _ _ _ 460 _ _ _ _
    refine wp_s (i := .iconst 1) (n := 1) (pc' := 461) (st' := [.int 1, .int s1, .ref 114, .int x]) rfl rfl ?_
    refine wp_s (i := .goto 4) (n := 3) (pc' := 465) (st' := [.int 1, .int s1, .ref 114, .int x]) rfl rfl ?_
    refine wp_cv (idx := 55) (Dq := 12) (r' := mm_r144) (as0 := [.int s1, .int 1]) (rest := [.int x]) (ls' := [some (.ref 114), some (.int s1), some (.int 1), none]) (pc' := 468) rfl rfl rfl rfl hfs rfl rfl rfl ?_
    refine hq.mono ?_
    rintro _ h2 ⟨rfl, hok⟩
    show mm_Wp (some [s0, s1, s2, s3, s4]) 13 mm_r195 468 [some (.retAddr 0), some (.ref 0), some (.ref 114), some (.int 0)] [.int x, .int x] h2 _
    refine wp_ic (t := 1310) (st := []) rfl rfl (fun _ => ?_) (fun hc => by simp [mm_cc] at hc)
    exact pk_end s0 s1 s2 s3 s4 h2 hok
set_option maxRecDepth 20000 in
theorem pl_9 (s0 s1 s2 s3 s4 : Int32) : mm_Wp (some [s0, s1, s2, s3, s4]) 13 mm_rL 473 [some (.retAddr 0), some (.ref 0), some (.ref 114), some (.int 0)] [] hp_0 pk_Q := by
  refine wp_s (i := .aload_n 1) (n := 1) (pc' := 474) (st' := [.ref 0]) rfl rfl ?_
  refine wp_s (i := .aload_n 0) (n := 1) (pc' := 475) (st' := [.retAddr 0, .ref 0]) rfl rfl ?_
  refine wp_s (i := .iload_n 3) (n := 1) (pc' := 476) (st' := [.int 0, .retAddr 0, .ref 0]) rfl rfl ?_
  refine wp_s (i := .iconst 1) (n := 1) (pc' := 477) (st' := [.int 1, .int 0, .retAddr 0, .ref 0]) rfl rfl ?_
  refine wp_s (i := .iadd) (n := 1) (pc' := 478) (st' := [.int 1, .retAddr 0, .ref 0]) rfl rfl ?_
  refine wp_s (i := .iaload) (n := 1) (pc' := 479) (st' := [.int s1, .ref 0]) rfl rfl ?_
  refine wp_s (i := .aload_n 0) (n := 1) (pc' := 480) (st' := [.retAddr 0, .int s1, .ref 0]) rfl rfl ?_
  refine wp_s (i := .iload_n 3) (n := 1) (pc' := 481) (st' := [.int 0, .retAddr 0, .int s1, .ref 0]) rfl rfl ?_
  refine wp_s (i := .iconst 2) (n := 1) (pc' := 482) (st' := [.int 2, .int 0, .retAddr 0, .int s1, .ref 0]) rfl rfl ?_
  refine wp_s (i := .iadd) (n := 1) (pc' := 483) (st' := [.int 2, .retAddr 0, .int s1, .ref 0]) rfl rfl ?_
  refine wp_s (i := .iaload) (n := 1) (pc' := 484) (st' := [.int s2, .int s1, .ref 0]) rfl rfl ?_
  refine wp_c (i := .invokevirtual 56) (n := 3) (Dq := 12) (r' := mm_r74) (as := [.ref 0, .int s1, .int s2]) (rest := []) (ls' := [some (.ref 0), some (.int s1), some (.int s2), none]) rfl rfl rfl ?_
  refine (pk_9 (some [s0, s1, s2, s3, s4]) s1 s2).mono ?_
  rintro _ h1 ⟨x, rfl, ⟨fs, hfs⟩, hq⟩
  show mm_Wp (some [s0, s1, s2, s3, s4]) 13 mm_r195 487 [some (.retAddr 0), some (.ref 0), some (.ref 114), some (.int 0)] [.int x] h1 _
  refine wp_s (i := .aload_n 2) (n := 1) (pc' := 488) (st' := [.ref 114, .int x]) rfl rfl ?_
  refine wp_s (i := .aload_n 0) (n := 1) (pc' := 489) (st' := [.retAddr 0, .ref 114, .int x]) rfl rfl ?_
  refine wp_s (i := .iload_n 3) (n := 1) (pc' := 490) (st' := [.int 0, .retAddr 0, .ref 114, .int x]) rfl rfl ?_
  refine wp_s (i := .iconst 1) (n := 1) (pc' := 491) (st' := [.int 1, .int 0, .retAddr 0, .ref 114, .int x]) rfl rfl ?_
  refine wp_s (i := .iadd) (n := 1) (pc' := 492) (st' := [.int 1, .retAddr 0, .ref 114, .int x]) rfl rfl ?_
  refine wp_s (i := .iaload) (n := 1) (pc' := 493) (st' := [.int s1, .ref 114, .int x]) rfl rfl ?_
  refine wp_s (i := .aload_n 0) (n := 1) (pc' := 494) (st' := [.retAddr 0, .int s1, .ref 114, .int x]) rfl rfl ?_
  refine wp_s (i := .iload_n 3) (n := 1) (pc' := 495) (st' := [.int 0, .retAddr 0, .int s1, .ref 114, .int x]) rfl rfl ?_
  refine wp_s (i := .iconst 2) (n := 1) (pc' := 496) (st' := [.int 2, .int 0, .retAddr 0, .int s1, .ref 114, .int x]) rfl rfl ?_
  refine wp_s (i := .iadd) (n := 1) (pc' := 497) (st' := [.int 2, .retAddr 0, .int s1, .ref 114, .int x]) rfl rfl ?_
  refine wp_s (i := .iaload) (n := 1) (pc' := 498) (st' := [.int s2, .int s1, .ref 114, .int x]) rfl rfl ?_
  refine wp_cv (idx := 59) (Dq := 12) (r' := mm_r145) (as0 := [.int s1, .int s2]) (rest := [.int x]) (ls' := [some (.ref 114), some (.int s1), some (.int s2), none]) (pc' := 501) rfl rfl rfl rfl hfs rfl rfl rfl ?_
  refine hq.mono ?_
  rintro _ h2 ⟨rfl, hok⟩
  show mm_Wp (some [s0, s1, s2, s3, s4]) 13 mm_r195 501 [some (.retAddr 0), some (.ref 0), some (.ref 114), some (.int 0)] [.int x, .int x] h2 _
  refine wp_ic (t := 1310) (st := []) rfl rfl (fun _ => ?_) (fun hc => by simp [mm_cc] at hc)
  exact pk_end s0 s1 s2 s3 s4 h2 hok
set_option maxRecDepth 20000 in
theorem pl_10 (s0 s1 s2 s3 s4 : Int32) : mm_Wp (some [s0, s1, s2, s3, s4]) 13 mm_rL 506 [some (.retAddr 0), some (.ref 0), some (.ref 114), some (.int 0)] [] hp_0 pk_Q := by
  refine wp_s (i := .aload_n 1) (n := 1) (pc' := 507) (st' := [.ref 0]) rfl rfl ?_
  refine wp_s (i := .aload_n 0) (n := 1) (pc' := 508) (st' := [.retAddr 0, .ref 0]) rfl rfl ?_
  refine wp_s (i := .iload_n 3) (n := 1) (pc' := 509) (st' := [.int 0, .retAddr 0, .ref 0]) rfl rfl ?_
  refine wp_s (i := .iconst 1) (n := 1) (pc' := 510) (st' := [.int 1, .int 0, .retAddr 0, .ref 0]) rfl rfl ?_
  refine wp_s (i := .iadd) (n := 1) (pc' := 511) (st' := [.int 1, .retAddr 0, .ref 0]) rfl rfl ?_
  refine wp_s (i := .iaload) (n := 1) (pc' := 512) (st' := [.int s1, .ref 0]) rfl rfl ?_
  refine wp_c (i := .invokevirtual 60) (n := 3) (Dq := 12) (r' := mm_r75) (as := [.ref 0, .int s1]) (rest := []) (ls' := [some (.ref 0), some (.int s1), none]) rfl rfl rfl ?_
  refine (pk_10 (some [s0, s1, s2, s3, s4]) s1).mono ?_
  rintro _ h1 ⟨x, rfl, ⟨fs, hfs⟩, hq⟩
  show mm_Wp (some [s0, s1, s2, s3, s4]) 13 mm_r195 515 [some (.retAddr 0), some (.ref 0), some (.ref 114), some (.int 0)] [.int x] h1 _
  refine wp_s (i := .aload_n 2) (n := 1) (pc' := 516) (st' := [.ref 114, .int x]) rfl rfl ?_
  refine wp_s (i := .aload_n 0) (n := 1) (pc' := 517) (st' := [.retAddr 0, .ref 114, .int x]) rfl rfl ?_
  refine wp_s (i := .iload_n 3) (n := 1) (pc' := 518) (st' := [.int 0, .retAddr 0, .ref 114, .int x]) rfl rfl ?_
  refine wp_s (i := .iconst 1) (n := 1) (pc' := 519) (st' := [.int 1, .int 0, .retAddr 0, .ref 114, .int x]) rfl rfl ?_
  refine wp_s (i := .iadd) (n := 1) (pc' := 520) (st' := [.int 1, .retAddr 0, .ref 114, .int x]) rfl rfl ?_
  refine wp_s (i := .iaload) (n := 1) (pc' := 521) (st' := [.int s1, .ref 114, .int x]) rfl rfl ?_
  refine wp_cv (idx := 63) (Dq := 12) (r' := mm_r149) (as0 := [.int s1]) (rest := [.int x]) (ls' := [some (.ref 114), some (.int s1), none]) (pc' := 524) rfl rfl rfl rfl hfs rfl rfl rfl ?_
  refine hq.mono ?_
  rintro _ h2 ⟨rfl, hok⟩
  show mm_Wp (some [s0, s1, s2, s3, s4]) 13 mm_r195 524 [some (.retAddr 0), some (.ref 0), some (.ref 114), some (.int 0)] [.int x, .int x] h2 _
  refine wp_ic (t := 1310) (st := []) rfl rfl (fun _ => ?_) (fun hc => by simp [mm_cc] at hc)
  exact pk_end s0 s1 s2 s3 s4 h2 hok
set_option maxRecDepth 20000 in
theorem pl_11 (s0 s1 s2 s3 s4 : Int32) : mm_Wp (some [s0, s1, s2, s3, s4]) 13 mm_rL 529 [some (.retAddr 0), some (.ref 0), some (.ref 114), some (.int 0)] [] hp_0 pk_Q := by
  refine wp_s (i := .aload_n 1) (n := 1) (pc' := 530) (st' := [.ref 0]) rfl rfl ?_
  refine wp_s (i := .aload_n 0) (n := 1) (pc' := 531) (st' := [.retAddr 0, .ref 0]) rfl rfl ?_
  refine wp_s (i := .iload_n 3) (n := 1) (pc' := 532) (st' := [.int 0, .retAddr 0, .ref 0]) rfl rfl ?_
  refine wp_s (i := .iconst 1) (n := 1) (pc' := 533) (st' := [.int 1, .int 0, .retAddr 0, .ref 0]) rfl rfl ?_
  refine wp_s (i := .iadd) (n := 1) (pc' := 534) (st' := [.int 1, .retAddr 0, .ref 0]) rfl rfl ?_
  refine wp_s (i := .iaload) (n := 1) (pc' := 535) (st' := [.int s1, .ref 0]) rfl rfl ?_
  refine wp_c (i := .invokevirtual 64) (n := 3) (Dq := 12) (r' := mm_r76) (as := [.ref 0, .int s1]) (rest := []) (ls' := [some (.ref 0), some (.int s1)]) rfl rfl rfl ?_
  refine (pk_11 (some [s0, s1, s2, s3, s4]) s1).mono ?_
  rintro _ h1 ⟨x, rfl, ⟨fs, hfs⟩, hq⟩
  show mm_Wp (some [s0, s1, s2, s3, s4]) 13 mm_r195 538 [some (.retAddr 0), some (.ref 0), some (.ref 114), some (.int 0)] [.int x] h1 _
  refine wp_s (i := .aload_n 2) (n := 1) (pc' := 539) (st' := [.ref 114, .int x]) rfl rfl ?_
  refine wp_s (i := .aload_n 0) (n := 1) (pc' := 540) (st' := [.retAddr 0, .ref 114, .int x]) rfl rfl ?_
  refine wp_s (i := .iload_n 3) (n := 1) (pc' := 541) (st' := [.int 0, .retAddr 0, .ref 114, .int x]) rfl rfl ?_
  refine wp_s (i := .iconst 1) (n := 1) (pc' := 542) (st' := [.int 1, .int 0, .retAddr 0, .ref 114, .int x]) rfl rfl ?_
  refine wp_s (i := .iadd) (n := 1) (pc' := 543) (st' := [.int 1, .retAddr 0, .ref 114, .int x]) rfl rfl ?_
  refine wp_s (i := .iaload) (n := 1) (pc' := 544) (st' := [.int s1, .ref 114, .int x]) rfl rfl ?_
  refine wp_cv (idx := 67) (Dq := 12) (r' := mm_r156) (as0 := [.int s1]) (rest := [.int x]) (ls' := [some (.ref 114), some (.int s1)]) (pc' := 547) rfl rfl rfl rfl hfs rfl rfl rfl ?_
  refine hq.mono ?_
  rintro _ h2 ⟨rfl, hok⟩
  show mm_Wp (some [s0, s1, s2, s3, s4]) 13 mm_r195 547 [some (.retAddr 0), some (.ref 0), some (.ref 114), some (.int 0)] [.int x, .int x] h2 _
  refine wp_ic (t := 1310) (st := []) rfl rfl (fun _ => ?_) (fun hc => by simp [mm_cc] at hc)
  exact pk_end s0 s1 s2 s3 s4 h2 hok
set_option maxRecDepth 20000 in
theorem pl_12 (s0 s1 s2 s3 s4 : Int32) : mm_Wp (some [s0, s1, s2, s3, s4]) 13 mm_rL 552 [some (.retAddr 0), some (.ref 0), some (.ref 114), some (.int 0)] [] hp_0 pk_Q := by
  refine wp_s (i := .aload_n 1) (n := 1) (pc' := 553) (st' := [.ref 0]) rfl rfl ?_
  refine wp_c (i := .invokevirtual 68) (n := 3) (Dq := 12) (r' := mm_r77) (as := [.ref 0]) (rest := []) (ls' := [some (.ref 0), none]) rfl rfl rfl ?_
  refine (pk_12 (some [s0, s1, s2, s3, s4]) ).mono ?_
  rintro _ h1 ⟨x, rfl, ⟨fs, hfs⟩, hq⟩
  show mm_Wp (some [s0, s1, s2, s3, s4]) 13 mm_r195 556 [some (.retAddr 0), some (.ref 0), some (.ref 114), some (.int 0)] [.int x] h1 _
  refine wp_s (i := .aload_n 2) (n := 1) (pc' := 557) (st' := [.ref 114, .int x]) rfl rfl ?_
  refine wp_cv (idx := 71) (Dq := 12) (r' := mm_r157) (as0 := []) (rest := [.int x]) (ls' := [some (.ref 114), none]) (pc' := 560) rfl rfl rfl rfl hfs rfl rfl rfl ?_
  refine hq.mono ?_
  rintro _ h2 ⟨rfl, hok⟩
  show mm_Wp (some [s0, s1, s2, s3, s4]) 13 mm_r195 560 [some (.retAddr 0), some (.ref 0), some (.ref 114), some (.int 0)] [.int x, .int x] h2 _
  refine wp_ic (t := 1310) (st := []) rfl rfl (fun _ => ?_) (fun hc => by simp [mm_cc] at hc)
  exact pk_end s0 s1 s2 s3 s4 h2 hok
set_option maxRecDepth 20000 in
theorem pl_13 (s0 s1 s2 s3 s4 : Int32) : mm_Wp (some [s0, s1, s2, s3, s4]) 13 mm_rL 565 [some (.retAddr 0), some (.ref 0), some (.ref 114), some (.int 0)] [] hp_0 pk_Q := by
  refine wp_s (i := .aload_n 1) (n := 1) (pc' := 566) (st' := [.ref 0]) rfl rfl ?_
  refine wp_s (i := .aload_n 0) (n := 1) (pc' := 567) (st' := [.retAddr 0, .ref 0]) rfl rfl ?_
  refine wp_s (i := .iload_n 3) (n := 1) (pc' := 568) (st' := [.int 0, .retAddr 0, .ref 0]) rfl rfl ?_
  refine wp_s (i := .iconst 1) (n := 1) (pc' := 569) (st' := [.int 1, .int 0, .retAddr 0, .ref 0]) rfl rfl ?_
  refine wp_s (i := .iadd) (n := 1) (pc' := 570) (st' := [.int 1, .retAddr 0, .ref 0]) rfl rfl ?_
  refine wp_s (i := .iaload) (n := 1) (pc' := 571) (st' := [.int s1, .ref 0]) rfl rfl ?_
  refine wp_c (i := .invokevirtual 72) (n := 3) (Dq := 12) (r' := mm_r78) (as := [.ref 0, .int s1]) (rest := []) (ls' := [some (.ref 0), some (.int s1)]) rfl rfl rfl ?_
  refine (pk_13 (some [s0, s1, s2, s3, s4]) s1).mono ?_
  rintro _ h1 ⟨x, rfl, ⟨fs, hfs⟩, hq⟩
  show mm_Wp (some [s0, s1, s2, s3, s4]) 13 mm_r195 574 [some (.retAddr 0), some (.ref 0), some (.ref 114), some (.int 0)] [.int x] h1 _
  refine wp_s (i := .aload_n 2) (n := 1) (pc' := 575) (st' := [.ref 114, .int x]) rfl rfl ?_
  refine wp_s (i := .aload_n 0) (n := 1) (pc' := 576) (st' := [.retAddr 0, .ref 114, .int x]) rfl rfl ?_
  refine wp_s (i := .iload_n 3) (n := 1) (pc' := 577) (st' := [.int 0, .retAddr 0, .ref 114, .int x]) rfl rfl ?_
  refine wp_s (i := .iconst 1) (n := 1) (pc' := 578) (st' := [.int 1, .int 0, .retAddr 0, .ref 114, .int x]) rfl rfl ?_
  refine wp_s (i := .iadd) (n := 1) (pc' := 579) (st' := [.int 1, .retAddr 0, .ref 114, .int x]) rfl rfl ?_
  refine wp_s (i := .iaload) (n := 1) (pc' := 580) (st' := [.int s1, .ref 114, .int x]) rfl rfl ?_
  refine wp_cv (idx := 75) (Dq := 12) (r' := mm_r158) (as0 := [.int s1]) (rest := [.int x]) (ls' := [some (.ref 114), some (.int s1)]) (pc' := 583) rfl rfl rfl rfl hfs rfl rfl rfl ?_
  refine hq.mono ?_
  rintro _ h2 ⟨rfl, hok⟩
  show mm_Wp (some [s0, s1, s2, s3, s4]) 13 mm_r195 583 [some (.retAddr 0), some (.ref 0), some (.ref 114), some (.int 0)] [.int x, .int x] h2 _
  refine wp_ic (t := 1310) (st := []) rfl rfl (fun _ => ?_) (fun hc => by simp [mm_cc] at hc)
  exact pk_end s0 s1 s2 s3 s4 h2 hok
set_option maxRecDepth 20000 in
theorem pl_14 (s0 s1 s2 s3 s4 : Int32) : mm_Wp (some [s0, s1, s2, s3, s4]) 13 mm_rL 588 [some (.retAddr 0), some (.ref 0), some (.ref 114), some (.int 0)] [] hp_0 pk_Q := by
  refine wp_s (i := .aload_n 1) (n := 1) (pc' := 589) (st' := [.ref 0]) rfl rfl ?_
  refine wp_s (i := .aload_n 0) (n := 1) (pc' := 590) (st' := [.retAddr 0, .ref 0]) rfl rfl ?_
  refine wp_s (i := .iload_n 3) (n := 1) (pc' := 591) (st' := [.int 0, .retAddr 0, .ref 0]) rfl rfl ?_
  refine wp_s (i := .iconst 1) (n := 1) (pc' := 592) (st' := [.int 1, .int 0, .retAddr 0, .ref 0]) rfl rfl ?_
  refine wp_s (i := .iadd) (n := 1) (pc' := 593) (st' := [.int 1, .retAddr 0, .ref 0]) rfl rfl ?_
  refine wp_s (i := .iaload) (n := 1) (pc' := 594) (st' := [.int s1, .ref 0]) rfl rfl ?_
  refine wp_c (i := .invokevirtual 76) (n := 3) (Dq := 12) (r' := mm_r79) (as := [.ref 0, .int s1]) (rest := []) (ls' := [some (.ref 0), some (.int s1)]) rfl rfl rfl ?_
  refine (pk_14 (some [s0, s1, s2, s3, s4]) s1).mono ?_
  rintro _ h1 ⟨x, rfl, ⟨fs, hfs⟩, hq⟩
  show mm_Wp (some [s0, s1, s2, s3, s4]) 13 mm_r195 597 [some (.retAddr 0), some (.ref 0), some (.ref 114), some (.int 0)] [.int x] h1 _
  refine wp_s (i := .aload_n 2) (n := 1) (pc' := 598) (st' := [.ref 114, .int x]) rfl rfl ?_
  refine wp_s (i := .aload_n 0) (n := 1) (pc' := 599) (st' := [.retAddr 0, .ref 114, .int x]) rfl rfl ?_
  refine wp_s (i := .iload_n 3) (n := 1) (pc' := 600) (st' := [.int 0, .retAddr 0, .ref 114, .int x]) rfl rfl ?_
  refine wp_s (i := .iconst 1) (n := 1) (pc' := 601) (st' := [.int 1, .int 0, .retAddr 0, .ref 114, .int x]) rfl rfl ?_
  refine wp_s (i := .iadd) (n := 1) (pc' := 602) (st' := [.int 1, .retAddr 0, .ref 114, .int x]) rfl rfl ?_
  refine wp_s (i := .iaload) (n := 1) (pc' := 603) (st' := [.int s1, .ref 114, .int x]) rfl rfl ?_
  refine wp_cv (idx := 79) (Dq := 12) (r' := mm_r159) (as0 := [.int s1]) (rest := [.int x]) (ls' := [some (.ref 114), some (.int s1)]) (pc' := 606) rfl rfl rfl rfl hfs rfl rfl rfl ?_
  refine hq.mono ?_
  rintro _ h2 ⟨rfl, hok⟩
  show mm_Wp (some [s0, s1, s2, s3, s4]) 13 mm_r195 606 [some (.retAddr 0), some (.ref 0), some (.ref 114), some (.int 0)] [.int x, .int x] h2 _
  refine wp_ic (t := 1310) (st := []) rfl rfl (fun _ => ?_) (fun hc => by simp [mm_cc] at hc)
  exact pk_end s0 s1 s2 s3 s4 h2 hok
set_option maxRecDepth 20000 in
theorem pl_15 (s0 s1 s2 s3 s4 : Int32) : mm_Wp (some [s0, s1, s2, s3, s4]) 13 mm_rL 611 [some (.retAddr 0), some (.ref 0), some (.ref 114), some (.int 0)] [] hp_0 pk_Q := by
  refine wp_s (i := .aload_n 1) (n := 1) (pc' := 612) (st' := [.ref 0]) rfl rfl ?_
  refine wp_s (i := .aload_n 0) (n := 1) (pc' := 613) (st' := [.retAddr 0, .ref 0]) rfl rfl ?_
  refine wp_s (i := .iload_n 3) (n := 1) (pc' := 614) (st' := [.int 0, .retAddr 0, .ref 0]) rfl rfl ?_
  refine wp_s (i := .iconst 1) (n := 1) (pc' := 615) (st' := [.int 1, .int 0, .retAddr 0, .ref 0]) rfl rfl ?_
  refine wp_s (i := .iadd) (n := 1) (pc' := 616) (st' := [.int 1, .retAddr 0, .ref 0]) rfl rfl ?_
  refine wp_s (i := .iaload) (n := 1) (pc' := 617) (st' := [.int s1, .ref 0]) rfl rfl ?_
  refine wp_s (i := .aload_n 0) (n := 1) (pc' := 618) (st' := [.retAddr 0, .int s1, .ref 0]) rfl rfl ?_
  refine wp_s (i := .iload_n 3) (n := 1) (pc' := 619) (st' := [.int 0, .retAddr 0, .int s1, .ref 0]) rfl rfl ?_
  refine wp_s (i := .iconst 2) (n := 1) (pc' := 620) (st' := [.int 2, .int 0, .retAddr 0, .int s1, .ref 0]) rfl rfl ?_
  refine wp_s (i := .iadd) (n := 1) (pc' := 621) (st' := [.int 2, .retAddr 0, .int s1, .ref 0]) rfl rfl ?_
  refine wp_s (i := .iaload) (n := 1) (pc' := 622) (st' := [.int s2, .int s1, .ref 0]) rfl rfl ?_
  refine wp_c (i := .invokevirtual 80) (n := 3) (Dq := 12) (r' := mm_r80) (as := [.ref 0, .int s1, .int s2]) (rest := []) (ls' := [some (.ref 0), some (.int s1), some (.int s2)]) rfl rfl rfl ?_
  refine (pk_15 (some [s0, s1, s2, s3, s4]) s1 s2).mono ?_
  rintro _ h1 ⟨x, rfl, ⟨fs, hfs⟩, hq⟩
  show mm_Wp (some [s0, s1, s2, s3, s4]) 13 mm_r195 625 [some (.retAddr 0), some (.ref 0), some (.ref 114), some (.int 0)] [.int x] h1 _
  refine wp_s (i := .aload_n 2) (n := 1) (pc' := 626) (st' := [.ref 114, .int x]) rfl rfl ?_
  refine wp_s (i := .aload_n 0) (n := 1) (pc' := 627) (st' := [.retAddr 0, .ref 114, .int x]) rfl rfl ?_
  refine wp_s (i := .iload_n 3) (n := 1) (pc' := 628) (st' := [.int 0, .retAddr 0, .ref 114, .int x]) rfl rfl ?_
  refine wp_s (i := .iconst 1) (n := 1) (pc' := 629) (st' := [.int 1, .int 0, .retAddr 0, .ref 114, .int x]) rfl rfl ?_
  refine wp_s (i := .iadd) (n := 1) (pc' := 630) (st' := [.int 1, .retAddr 0, .ref 114, .int x]) rfl rfl ?_
  refine wp_s (i := .iaload) (n := 1) (pc' := 631) (st' := [.int s1, .ref 114, .int x]) rfl rfl ?_
  refine wp_s (i := .aload_n 0) (n := 1) (pc' := 632) (st' := [.retAddr 0, .int s1, .ref 114, .int x]) rfl rfl ?_
  refine wp_s (i := .iload_n 3) (n := 1) (pc' := 633) (st' := [.int 0, .retAddr 0, .int s1, .ref 114, .int x]) rfl rfl ?_
  refine wp_s (i := .iconst 2) (n := 1) (pc' := 634) (st' := [.int 2, .int 0, .retAddr 0, .int s1, .ref 114, .int x]) rfl rfl ?_
  refine wp_s (i := .iadd) (n := 1) (pc' := 635) (st' := [.int 2, .retAddr 0, .int s1, .ref 114, .int x]) rfl rfl ?_
  refine wp_s (i := .iaload) (n := 1) (pc' := 636) (st' := [.int s2, .int s1, .ref 114, .int x]) rfl rfl ?_
  refine wp_cv (idx := 83) (Dq := 12) (r' := mm_r163) (as0 := [.int s1, .int s2]) (rest := [.int x]) (ls' := [some (.ref 114), some (.int s1), some (.int s2)]) (pc' := 639) rfl rfl rfl rfl hfs rfl rfl rfl ?_
  refine hq.mono ?_
  rintro _ h2 ⟨rfl, hok⟩
  show mm_Wp (some [s0, s1, s2, s3, s4]) 13 mm_r195 639 [some (.retAddr 0), some (.ref 0), some (.ref 114), some (.int 0)] [.int x, .int x] h2 _
  refine wp_ic (t := 1310) (st := []) rfl rfl (fun _ => ?_) (fun hc => by simp [mm_cc] at hc)
  exact pk_end s0 s1 s2 s3 s4 h2 hok
set_option maxRecDepth 20000 in
theorem pl_16 (s0 s1 s2 s3 s4 : Int32) : mm_Wp (some [s0, s1, s2, s3, s4]) 13 mm_rL 644 [some (.retAddr 0), some (.ref 0), some (.ref 114), some (.int 0)] [] hp_0 pk_Q := by
  refine wp_s (i := .aload_n 1) (n := 1) (pc' := 645) (st' := [.ref 0]) rfl rfl ?_
  refine wp_s (i := .aload_n 0) (n := 1) (pc' := 646) (st' := [.retAddr 0, .ref 0]) rfl rfl ?_
  refine wp_s (i := .iload_n 3) (n := 1) (pc' := 647) (st' := [.int 0, .retAddr 0, .ref 0]) rfl rfl ?_
  refine wp_s (i := .iconst 1) (n := 1) (pc' := 648) (st' := [.int 1, .int 0, .retAddr 0, .ref 0]) rfl rfl ?_
  refine wp_s (i := .iadd) (n := 1) (pc' := 649) (st' := [.int 1, .retAddr 0, .ref 0]) rfl rfl ?_
  refine wp_s (i := .iaload) (n := 1) (pc' := 650) (st' := [.int s1, .ref 0]) rfl rfl ?_
  refine wp_s (i := .aload_n 0) (n := 1) (pc' := 651) (st' := [.retAddr 0, .int s1, .ref 0]) rfl rfl ?_
  refine wp_s (i := .iload_n 3) (n := 1) (pc' := 652) (st' := [.int 0, .retAddr 0, .int s1, .ref 0]) rfl rfl ?_
  refine wp_s (i := .iconst 2) (n := 1) (pc' := 653) (st' := [.int 2, .int 0, .retAddr 0, .int s1, .ref 0]) rfl rfl ?_
  refine wp_s (i := .iadd) (n := 1) (pc' := 654) (st' := [.int 2, .retAddr 0, .int s1, .ref 0]) rfl rfl ?_
  refine wp_s (i := .iaload) (n := 1) (pc' := 655) (st' := [.int s2, .int s1, .ref 0]) rfl rfl ?_
  refine wp_c (i := .invokevirtual 84) (n := 3) (Dq := 12) (r' := mm_r81) (as := [.ref 0, .int s1, .int s2]) (rest := []) (ls' := [some (.ref 0), some (.int s1), some (.int s2)]) rfl rfl rfl ?_
  refine (pk_16 (some [s0, s1, s2, s3, s4]) s1 s2).mono ?_
  rintro _ h1 ⟨x, rfl, ⟨fs, hfs⟩, hq⟩
  show mm_Wp (some [s0, s1, s2, s3, s4]) 13 mm_r195 658 [some (.retAddr 0), some (.ref 0), some (.ref 114), some (.int 0)] [.int x] h1 _
  refine wp_s (i := .aload_n 2) (n := 1) (pc' := 659) (st' := [.ref 114, .int x]) rfl rfl ?_
  refine wp_s (i := .aload_n 0) (n := 1) (pc' := 660) (st' := [.retAddr 0, .ref 114, .int x]) rfl rfl ?_
  refine wp_s (i := .iload_n 3) (n := 1) (pc' := 661) (st' := [.int 0, .retAddr 0, .ref 114, .int x]) rfl rfl ?_
  refine wp_s (i := .iconst 1) (n := 1) (pc' := 662) (st' := [.int 1, .int 0, .retAddr 0, .ref 114, .int x]) rfl rfl ?_
  refine wp_s (i := .iadd) (n := 1) (pc' := 663) (st' := [.int 1, .retAddr 0, .ref 114, .int x]) rfl rfl ?_
  refine wp_s (i := .iaload) (n := 1) (pc' := 664) (st' := [.int s1, .ref 114, .int x]) rfl rfl ?_
  refine wp_s (i := .aload_n 0) (n := 1) (pc' := 665) (st' := [.retAddr 0, .int s1, .ref 114, .int x]) rfl rfl ?_
  refine wp_s (i := .iload_n 3) (n := 1) (pc' := 666) (st' := [.int 0, .retAddr 0, .int s1, .ref 114, .int x]) rfl rfl ?_
  refine wp_s (i := .iconst 2) (n := 1) (pc' := 667) (st' := [.int 2, .int 0, .retAddr 0, .int s1, .ref 114, .int x]) rfl rfl ?_
  refine wp_s (i := .iadd) (n := 1) (pc' := 668) (st' := [.int 2, .retAddr 0, .int s1, .ref 114, .int x]) rfl rfl ?_
  refine wp_s (i := .iaload) (n := 1) (pc' := 669) (st' := [.int s2, .int s1, .ref 114, .int x]) rfl rfl ?_
  refine wp_cv (idx := 87) (Dq := 12) (r' := mm_r164) (as0 := [.int s1, .int s2]) (rest := [.int x]) (ls' := [some (.ref 114), some (.int s1), some (.int s2)]) (pc' := 672) rfl rfl rfl rfl hfs rfl rfl rfl ?_
  refine hq.mono ?_
  rintro _ h2 ⟨rfl, hok⟩
  show mm_Wp (some [s0, s1, s2, s3, s4]) 13 mm_r195 672 [some (.retAddr 0), some (.ref 0), some (.ref 114), some (.int 0)] [.int x, .int x] h2 _
  refine wp_ic (t := 1310) (st := []) rfl rfl (fun _ => ?_) (fun hc => by simp [mm_cc] at hc)
  exact pk_end s0 s1 s2 s3 s4 h2 hok
set_option maxRecDepth 20000 in
theorem pl_17 (s0 s1 s2 s3 s4 : Int32) : mm_Wp (some [s0, s1, s2, s3, s4]) 13 mm_rL 677 [some (.retAddr 0), some (.ref 0), some (.ref 114), some (.int 0)] [] hp_0 pk_Q := by
  refine wp_s (i := .aload_n 1) (n := 1) (pc' := 678) (st' := [.ref 0]) rfl rfl ?_
  refine wp_s (i := .aload_n 0) (n := 1) (pc' := 679) (st' := [.retAddr 0, .ref 0]) rfl rfl ?_
  refine wp_s (i := .iload_n 3) (n := 1) (pc' := 680) (st' := [.int 0, .retAddr 0, .ref 0]) rfl rfl ?_
  refine wp_s (i := .iconst 1) (n := 1) (pc' := 681) (st' := [.int 1, .int 0, .retAddr 0, .ref 0]) rfl rfl ?_
  refine wp_s (i := .iadd) (n := 1) (pc' := 682) (st' := [.int 1, .retAddr 0, .ref 0]) rfl rfl ?_
  refine wp_s (i := .iaload) (n := 1) (pc' := 683) (st' := [.int s1, .ref 0]) rfl rfl ?_
  refine wp_s (i := .aload_n 0) (n := 1) (pc' := 684) (st' := [.retAddr 0, .int s1, .ref 0]) rfl rfl ?_
  refine wp_s (i := .iload_n 3) (n := 1) (pc' := 685) (st' := [.int 0, .retAddr 0, .int s1, .ref 0]) rfl rfl ?_
  refine wp_s (i := .iconst 2) (n := 1) (pc' := 686) (st' := [.int 2, .int 0, .retAddr 0, .int s1, .ref 0]) rfl rfl ?_
  refine wp_s (i := .iadd) (n := 1) (pc' := 687) (st' := [.int 2, .retAddr 0, .int s1, .ref 0]) rfl rfl ?_
  refine wp_s (i := .iaload) (n := 1) (pc' := 688) (st' := [.int s2, .int s1, .ref 0]) rfl rfl ?_
  refine wp_c (i := .invokevirtual 88) (n := 3) (Dq := 12) (r' := mm_r82) (as := [.ref 0, .int s1, .int s2]) (rest := []) (ls' := [some (.ref 0), some (.int s1), some (.int s2), none]) rfl rfl rfl ?_
  refine (pk_17 (some [s0, s1, s2, s3, s4]) s1 s2).mono ?_
  rintro _ h1 ⟨x, rfl, ⟨fs, hfs⟩, hq⟩
  show mm_Wp (some [s0, s1, s2, s3, s4]) 13 mm_r195 691 [some (.retAddr 0), some (.ref 0), some (.ref 114), some (.int 0)] [.int x] h1 _
  refine wp_s (i := .aload_n 2) (n := 1) (pc' := 692) (st' := [.ref 114, .int x]) rfl rfl ?_
  refine wp_s (i := .aload_n 0) (n := 1) (pc' := 693) (st' := [.retAddr 0, .ref 114, .int x]) rfl rfl ?_
  refine wp_s (i := .iload_n 3) (n := 1) (pc' := 694) (st' := [.int 0, .retAddr 0, .ref 114, .int x]) rfl rfl ?_
  refine wp_s (i := .iconst 1) (n := 1) (pc' := 695) (st' := [.int 1, .int 0, .retAddr 0, .ref 114, .int x]) rfl rfl ?_
  refine wp_s (i := .iadd) (n := 1) (pc' := 696) (st' := [.int 1, .retAddr 0, .ref 114, .int x]) rfl rfl ?_
  refine wp_s (i := .iaload) (n := 1) (pc' := 697) (st' := [.int s1, .ref 114, .int x]) rfl rfl ?_
  refine wp_s (i := .aload_n 0) (n := 1) (pc' := 698) (st' := [.retAddr 0, .int s1, .ref 114, .int x]) rfl rfl ?_
  refine wp_s (i := .iload_n 3) (n := 1) (pc' := 699) (st' := [.int 0, .retAddr 0, .int s1, .ref 114, .int x]) rfl rfl ?_
  refine wp_s (i := .iconst 2) (n := 1) (pc' := 700) (st' := [.int 2, .int 0, .retAddr 0, .int s1, .ref 114, .int x]) rfl rfl ?_
  refine wp_s (i := .iadd) (n := 1) (pc' := 701) (st' := [.int 2, .retAddr 0, .int s1, .ref 114, .int x]) rfl rfl ?_
  refine wp_s (i := .iaload) (n := 1) (pc' := 702) (st' := [.int s2, .int s1, .ref 114, .int x]) rfl rfl ?_
  refine wp_cv (idx := 91) (Dq := 12) (r' := mm_r165) (as0 := [.int s1, .int s2]) (rest := [.int x]) (ls' := [some (.ref 114), some (.int s1), some (.int s2), none, none, none, none]) (pc' := 705) rfl rfl rfl rfl hfs rfl rfl rfl ?_
  refine hq.mono ?_
  rintro _ h2 ⟨rfl, hok⟩
  show mm_Wp (some [s0, s1, s2, s3, s4]) 13 mm_r195 705 [some (.retAddr 0), some (.ref 0), some (.ref 114), some (.int 0)] [.int x, .int x] h2 _
  refine wp_ic (t := 1310) (st := []) rfl rfl (fun _ => ?_) (fun hc => by simp [mm_cc] at hc)
  exact pk_end s0 s1 s2 s3 s4 h2 hok
set_option maxRecDepth 20000 in
theorem pl_18 (s0 s1 s2 s3 s4 : Int32) : mm_Wp (some [s0, s1, s2, s3, s4]) 13 mm_rL 710 [some (.retAddr 0), some (.ref 0), some (.ref 114), some (.int 0)] [] hp_0 pk_Q := by
  refine wp_s (i := .aload_n 1) (n := 1) (pc' := 711) (st' := [.ref 0]) rfl rfl ?_
  refine wp_s (i := .aload_n 0) (n := 1) (pc' := 712) (st' := [.retAddr 0, .ref 0]) rfl rfl ?_
  refine wp_s (i := .iload_n 3) (n := 1) (pc' := 713) (st' := [.int 0, .retAddr 0, .ref 0]) rfl rfl ?_
  refine wp_s (i := .iconst 1) (n := 1) (pc' := 714) (st' := [.int 1, .int 0, .retAddr 0, .ref 0]) rfl rfl ?_
  refine wp_s (i := .iadd) (n := 1) (pc' := 715) (st' := [.int 1, .retAddr 0, .ref 0]) rfl rfl ?_
  refine wp_s (i := .iaload) (n := 1) (pc' := 716) (st' := [.int s1, .ref 0]) rfl rfl ?_
  refine wp_c (i := .invokevirtual 92) (n := 3) (Dq := 12) (r' := mm_r83) (as := [.ref 0, .int s1]) (rest := []) (ls' := [some (.ref 0), some (.int s1)]) rfl rfl rfl ?_
  refine (pk_18 (some [s0, s1, s2, s3, s4]) s1).mono ?_
  rintro _ h1 ⟨x, rfl, ⟨fs, hfs⟩, hq⟩
  show mm_Wp (some [s0, s1, s2, s3, s4]) 13 mm_r195 719 [some (.retAddr 0), some (.ref 0), some (.ref 114), some (.int 0)] [.int x] h1 _
  refine wp_s (i := .aload_n 2) (n := 1) (pc' := 720) (st' := [.ref 114, .int x]) rfl rfl ?_
  refine wp_s (i := .aload_n 0) (n := 1) (pc' := 721) (st' := [.retAddr 0, .ref 114, .int x]) rfl rfl ?_
  refine wp_s (i := .iload_n 3) (n := 1) (pc' := 722) (st' := [.int 0, .retAddr 0, .ref 114, .int x]) rfl rfl ?_
  refine wp_s (i := .iconst 1) (n := 1) (pc' := 723) (st' := [.int 1, .int 0, .retAddr 0, .ref 114, .int x]) rfl rfl ?_
  refine wp_s (i := .iadd) (n := 1) (pc' := 724) (st' := [.int 1, .retAddr 0, .ref 114, .int x]) rfl rfl ?_
  refine wp_s (i := .iaload) (n := 1) (pc' := 725) (st' := [.int s1, .ref 114, .int x]) rfl rfl ?_
  refine wp_cv (idx := 95) (Dq := 12) (r' := mm_r166) (as0 := [.int s1]) (rest := [.int x]) (ls' := [some (.ref 114), some (.int s1)]) (pc' := 728) rfl rfl rfl rfl hfs rfl rfl rfl ?_
  refine hq.mono ?_
  rintro _ h2 ⟨rfl, hok⟩
  show mm_Wp (some [s0, s1, s2, s3, s4]) 13 mm_r195 728 [some (.retAddr 0), some (.ref 0), some (.ref 114), some (.int 0)] [.int x, .int x] h2 _
  refine wp_ic (t := 1310) (st := []) rfl rfl (fun _ => ?_) (fun hc => by simp [mm_cc] at hc)
  exact pk_end s0 s1 s2 s3 s4 h2 hok
set_option maxRecDepth 20000 in
theorem pl_19 (s0 s1 s2 s3 s4 : Int32) : mm_Wp (some [s0, s1, s2, s3, s4]) 13 mm_rL 733 [some (.retAddr 0), some (.ref 0), some (.ref 114), some (.int 0)] [] hp_0 pk_Q := by
  refine wp_s (i := .aload_n 1) (n := 1) (pc' := 734) (st' := [.ref 0]) rfl rfl ?_
  refine wp_s (i := .aload_n 0) (n := 1) (pc' := 735) (st' := [.retAddr 0, .ref 0]) rfl rfl ?_
  refine wp_s (i := .iload_n 3) (n := 1) (pc' := 736) (st' := [.int 0, .retAddr 0, .ref 0]) rfl rfl ?_
  refine wp_s (i := .iconst 1) (n := 1) (pc' := 737) (st' := [.int 1, .int 0, .retAddr 0, .ref 0]) rfl rfl ?_
  refine wp_s (i := .iadd) (n := 1) (pc' := 738) (st' := [.int 1, .retAddr 0, .ref 0]) rfl rfl ?_
  refine wp_s (i := .iaload) (n := 1) (pc' := 739) (st' := [.int s1, .ref 0]) rfl rfl ?_
  refine wp_s (i := .aload_n 0) (n := 1) (pc' := 740) (st' := [.retAddr 0, .int s1, .ref 0]) rfl rfl ?_
  refine wp_s (i := .iload_n 3) (n := 1) (pc' := 741) (st' := [.int 0, .retAddr 0, .int s1, .ref 0]) rfl rfl ?_
  refine wp_s (i := .iconst 2) (n := 1) (pc' := 742) (st' := [.int 2, .int 0, .retAddr 0, .int s1, .ref 0]) rfl rfl ?_
  refine wp_s (i := .iadd) (n := 1) (pc' := 743) (st' := [.int 2, .retAddr 0, .int s1, .ref 0]) rfl rfl ?_
  refine wp_s (i := .iaload) (n := 1) (pc' := 744) (st' := [.int s2, .int s1, .ref 0]) rfl rfl ?_
  refine wp_c (i := .invokevirtual 96) (n := 3) (Dq := 12) (r' := mm_r84) (as := [.ref 0, .int s1, .int s2]) (rest := []) (ls' := [some (.ref 0), some (.int s1), some (.int s2)]) rfl rfl rfl ?_
  refine (pk_19 (some [s0, s1, s2, s3, s4]) s1 s2).mono ?_
  rintro _ h1 ⟨x, rfl, ⟨fs, hfs⟩, hq⟩
  show mm_Wp (some [s0, s1, s2, s3, s4]) 13 mm_r195 747 [some (.retAddr 0), some (.ref 0), some (.ref 114), some (.int 0)] [.int x] h1 _
  refine wp_s (i := .aload_n 2) (n := 1) (pc' := 748) (st' := [.ref 114, .int x]) rfl rfl ?_
  refine wp_s (i := .aload_n 0) (n := 1) (pc' := 749) (st' := [.retAddr 0, .ref 114, .int x]) rfl rfl ?_
  refine wp_s (i := .iload_n 3) (n := 1) (pc' := 750) (st' := [.int 0, .retAddr 0, .ref 114, .int x]) rfl rfl ?_
  refine wp_s (i := .iconst 1) (n := 1) (pc' := 751) (st' := [.int 1, .int 0, .retAddr 0, .ref 114, .int x]) rfl rfl ?_
  refine wp_s (i := .iadd) (n := 1) (pc' := 752) (st' := [.int 1, .retAddr 0, .ref 114, .int x]) rfl rfl ?_
  refine wp_s (i := .iaload) (n := 1) (pc' := 753) (st' := [.int s1, .ref 114, .int x]) rfl rfl ?_
  refine wp_s (i := .aload_n 0) (n := 1) (pc' := 754) (st' := [.retAddr 0, .int s1, .ref 114, .int x]) rfl rfl ?_
  refine wp_s (i := .iload_n 3) (n := 1) (pc' := 755) (st' := [.int 0, .retAddr 0, .int s1, .ref 114, .int x]) rfl rfl ?_
  refine wp_s (i := .iconst 2) (n := 1) (pc' := 756) (st' := [.int 2, .int 0, .retAddr 0, .int s1, .ref 114, .int x]) rfl rfl ?_
  refine wp_s (i := .iadd) (n := 1) (pc' := 757) (st' := [.int 2, .retAddr 0, .int s1, .ref 114, .int x]) rfl rfl ?_
  refine wp_s (i := .iaload) (n := 1) (pc' := 758) (st' := [.int s2, .int s1, .ref 114, .int x]) rfl rfl ?_
  refine wp_cv (idx := 99) (Dq := 12) (r' := mm_r167) (as0 := [.int s1, .int s2]) (rest := [.int x]) (ls' := [some (.ref 114), some (.int s1), some (.int s2)]) (pc' := 761) rfl rfl rfl rfl hfs rfl rfl rfl ?_
  refine hq.mono ?_
  rintro _ h2 ⟨rfl, hok⟩
  show mm_Wp (some [s0, s1, s2, s3, s4]) 13 mm_r195 761 [some (.retAddr 0), some (.ref 0), some (.ref 114), some (.int 0)] [.int x, .int x] h2 _
  refine wp_ic (t := 1310) (st := []) rfl rfl (fun _ => ?_) (fun hc => by simp [mm_cc] at hc)
  exact pk_end s0 s1 s2 s3 s4 h2 hok
set_option maxRecDepth 20000 in
theorem pl_20 (s0 s1 s2 s3 s4 : Int32) : mm_Wp (some [s0, s1, s2, s3, s4]) 13 mm_rL 766 [some (.retAddr 0), some (.ref 0), some (.ref 114), some (.int 0)] [] hp_0 pk_Q := by
  refine wp_s (i := .aload_n 1) (n := 1) (pc' := 767) (st' := [.ref 0]) rfl rfl ?_
  refine wp_s (i := .aload_n 0) (n := 1) (pc' := 768) (st' := [.retAddr 0, .ref 0]) rfl rfl ?_
  refine wp_s (i := .iload_n 3) (n := 1) (pc' := 769) (st' := [.int 0, .retAddr 0, .ref 0]) rfl rfl ?_
  refine wp_s (i := .iconst 1) (n := 1) (pc' := 770) (st' := [.int 1, .int 0, .retAddr 0, .ref 0]) rfl rfl ?_
  refine wp_s (i := .iadd) (n := 1) (pc' := 771) (st' := [.int 1, .retAddr 0, .ref 0]) rfl rfl ?_
  refine wp_s (i := .iaload) (n := 1) (pc' := 772) (st' := [.int s1, .ref 0]) rfl rfl ?_
  refine wp_c (i := .invokevirtual 100) (n := 3) (Dq := 12) (r' := mm_r85) (as := [.ref 0, .int s1]) (rest := []) (ls' := [some (.ref 0), some (.int s1)]) rfl rfl rfl ?_
  refine (pk_20 (some [s0, s1, s2, s3, s4]) s1).mono ?_
  rintro _ h1 ⟨x, rfl, ⟨fs, hfs⟩, hq⟩
  show mm_Wp (some [s0, s1, s2, s3, s4]) 13 mm_r195 775 [some (.retAddr 0), some (.ref 0), some (.ref 114), some (.int 0)] [.int x] h1 _
  refine wp_s (i := .aload_n 2) (n := 1) (pc' := 776) (st' := [.ref 114, .int x]) rfl rfl ?_
  refine wp_s (i := .aload_n 0) (n := 1) (pc' := 777) (st' := [.retAddr 0, .ref 114, .int x]) rfl rfl ?_
  refine wp_s (i := .iload_n 3) (n := 1) (pc' := 778) (st' := [.int 0, .retAddr 0, .ref 114, .int x]) rfl rfl ?_
  refine wp_s (i := .iconst 1) (n := 1) (pc' := 779) (st' := [.int 1, .int 0, .retAddr 0, .ref 114, .int x]) rfl rfl ?_
  refine wp_s (i := .iadd) (n := 1) (pc' := 780) (st' := [.int 1, .retAddr 0, .ref 114, .int x]) rfl rfl ?_
  refine wp_s (i := .iaload) (n := 1) (pc' := 781) (st' := [.int s1, .ref 114, .int x]) rfl rfl ?_
  refine wp_cv (idx := 103) (Dq := 12) (r' := mm_r170) (as0 := [.int s1]) (rest := [.int x]) (ls' := [some (.ref 114), some (.int s1)]) (pc' := 784) rfl rfl rfl rfl hfs rfl rfl rfl ?_
  refine hq.mono ?_
  rintro _ h2 ⟨rfl, hok⟩
  show mm_Wp (some [s0, s1, s2, s3, s4]) 13 mm_r195 784 [some (.retAddr 0), some (.ref 0), some (.ref 114), some (.int 0)] [.int x, .int x] h2 _
  refine wp_ic (t := 1310) (st := []) rfl rfl (fun _ => ?_) (fun hc => by simp [mm_cc] at hc)
  exact pk_end s0 s1 s2 s3 s4 h2 hok
set_option maxRecDepth 20000 in
theorem pl_21 (s0 s1 s2 s3 s4 : Int32) : mm_Wp (some [s0, s1, s2, s3, s4]) 13 mm_rL 789 [some (.retAddr 0), some (.ref 0), some (.ref 114), some (.int 0)] [] hp_0 pk_Q := by
  refine wp_s (i := .aload_n 1) (n := 1) (pc' := 790) (st' := [.ref 0]) rfl rfl ?_
  refine wp_s (i := .aload_n 0) (n := 1) (pc' := 791) (st' := [.retAddr 0, .ref 0]) rfl rfl ?_
  refine wp_s (i := .iload_n 3) (n := 1) (pc' := 792) (st' := [.int 0, .retAddr 0, .ref 0]) rfl rfl ?_
  refine wp_s (i := .iconst 1) (n := 1) (pc' := 793) (st' := [.int 1, .int 0, .retAddr 0, .ref 0]) rfl rfl ?_
  refine wp_s (i := .iadd) (n := 1) (pc' := 794) (st' := [.int 1, .retAddr 0, .ref 0]) rfl rfl ?_
  refine wp_s (i := .iaload) (n := 1) (pc' := 795) (st' := [.int s1, .ref 0]) rfl rfl ?_
  refine wp_s (i := .aload_n 0) (n := 1) (pc' := 796) (st' := [.retAddr 0, .int s1, .ref 0]) rfl rfl ?_
  refine wp_s (i := .iload_n 3) (n := 1) (pc' := 797) (st' := [.int 0, .retAddr 0, .int s1, .ref 0]) rfl rfl ?_
  refine wp_s (i := .iconst 2) (n := 1) (pc' := 798) (st' := [.int 2, .int 0, .retAddr 0, .int s1, .ref 0]) rfl rfl ?_
  refine wp_s (i := .iadd) (n := 1) (pc' := 799) (st' := [.int 2, .retAddr 0, .int s1, .ref 0]) rfl rfl ?_
  refine wp_s (i := .iaload) (n := 1) (pc' := 800) (st' := [.int s2, .int s1, .ref 0]) rfl rfl ?_
  refine wp_c (i := .invokevirtual 104) (n := 3) (Dq := 12) (r' := mm_r86) (as := [.ref 0, .int s1, .int s2]) (rest := []) (ls' := [some (.ref 0), some (.int s1), some (.int s2)]) rfl rfl rfl ?_
  refine (pk_21 (some [s0, s1, s2, s3, s4]) s1 s2).mono ?_
  rintro _ h1 ⟨x, rfl, ⟨fs, hfs⟩, hq⟩
  show mm_Wp (some [s0, s1, s2, s3, s4]) 13 mm_r195 803 [some (.retAddr 0), some (.ref 0), some (.ref 114), some (.int 0)] [.int x] h1 _
  refine wp_s (i := .aload_n 2) (n := 1) (pc' := 804) (st' := [.ref 114, .int x]) rfl rfl ?_
  refine wp_s (i := .aload_n 0) (n := 1) (pc' := 805) (st' := [.retAddr 0, .ref 114, .int x]) rfl rfl ?_
  refine wp_s (i := .iload_n 3) (n := 1) (pc' := 806) (st' := [.int 0, .retAddr 0, .ref 114, .int x]) rfl rfl ?_
  refine wp_s (i := .iconst 1) (n := 1) (pc' := 807) (st' := [.int 1, .int 0, .retAddr 0, .ref 114, .int x]) rfl rfl ?_
  refine wp_s (i := .iadd) (n := 1) (pc' := 808) (st' := [.int 1, .retAddr 0, .ref 114, .int x]) rfl rfl ?_
  refine wp_s (i := .iaload) (n := 1) (pc' := 809) (st' := [.int s1, .ref 114, .int x]) rfl rfl ?_
  refine wp_s (i := .aload_n 0) (n := 1) (pc' := 810) (st' := [.retAddr 0, .int s1, .ref 114, .int x]) rfl rfl ?_
  refine wp_s (i := .iload_n 3) (n := 1) (pc' := 811) (st' := [.int 0, .retAddr 0, .int s1, .ref 114, .int x]) rfl rfl ?_
  refine wp_s (i := .iconst 2) (n := 1) (pc' := 812) (st' := [.int 2, .int 0, .retAddr 0, .int s1, .ref 114, .int x]) rfl rfl ?_
  refine wp_s (i := .iadd) (n := 1) (pc' := 813) (st' := [.int 2, .retAddr 0, .int s1, .ref 114, .int x]) rfl rfl ?_
  refine wp_s (i := .iaload) (n := 1) (pc' := 814) (st' := [.int s2, .int s1, .ref 114, .int x]) rfl rfl ?_
  refine wp_cv (idx := 107) (Dq := 12) (r' := mm_r172) (as0 := [.int s1, .int s2]) (rest := [.int x]) (ls' := [some (.ref 114), some (.int s1), some (.int s2)]) (pc' := 817) rfl rfl rfl rfl hfs rfl rfl rfl ?_
  refine hq.mono ?_
  rintro _ h2 ⟨rfl, hok⟩
  show mm_Wp (some [s0, s1, s2, s3, s4]) 13 mm_r195 817 [some (.retAddr 0), some (.ref 0), some (.ref 114), some (.int 0)] [.int x, .int x] h2 _
  refine wp_ic (t := 1310) (st := []) rfl rfl (fun _ => ?_) (fun hc => by simp [mm_cc] at hc)
  exact pk_end s0 s1 s2 s3 s4 h2 hok
set_option maxRecDepth 20000 in
theorem pl_22 (s0 s1 s2 s3 s4 : Int32) : mm_Wp (some [s0, s1, s2, s3, s4]) 13 mm_rL 822 [some (.retAddr 0), some (.ref 0), some (.ref 114), some (.int 0)] [] hp_0 pk_Q := by
  refine wp_s (i := .aload_n 1) (n := 1) (pc' := 823) (st' := [.ref 0]) rfl rfl ?_
  refine wp_s (i := .aload_n 0) (n := 1) (pc' := 824) (st' := [.retAddr 0, .ref 0]) rfl rfl ?_
  refine wp_s (i := .iload_n 3) (n := 1) (pc' := 825) (st' := [.int 0, .retAddr 0, .ref 0]) rfl rfl ?_
  refine wp_s (i := .iconst 1) (n := 1) (pc' := 826) (st' := [.int 1, .int 0, .retAddr 0, .ref 0]) rfl rfl ?_
  refine wp_s (i := .iadd) (n := 1) (pc' := 827) (st' := [.int 1, .retAddr 0, .ref 0]) rfl rfl ?_
  refine wp_s (i := .iaload) (n := 1) (pc' := 828) (st' := [.int s1, .ref 0]) rfl rfl ?_
  refine wp_s (i := .aload_n 0) (n := 1) (pc' := 829) (st' := [.retAddr 0, .int s1, .ref 0]) rfl rfl ?_
  refine wp_s (i := .iload_n 3) (n := 1) (pc' := 830) (st' := [.int 0, .retAddr 0, .int s1, .ref 0]) rfl rfl ?_
  refine wp_s (i := .iconst 2) (n := 1) (pc' := 831) (st' := [.int 2, .int 0, .retAddr 0, .int s1, .ref 0]) rfl rfl ?_
  refine wp_s (i := .iadd) (n := 1) (pc' := 832) (st' := [.int 2, .retAddr 0, .int s1, .ref 0]) rfl rfl ?_
  refine wp_s (i := .iaload) (n := 1) (pc' := 833) (st' := [.int s2, .int s1, .ref 0]) rfl rfl ?_
  refine wp_c (i := .invokevirtual 108) (n := 3) (Dq := 12) (r' := mm_r87) (as := [.ref 0, .int s1, .int s2]) (rest := []) (ls' := [some (.ref 0), some (.int s1), some (.int s2)]) rfl rfl rfl ?_
  refine (pk_22 (some [s0, s1, s2, s3, s4]) s1 s2).mono ?_
  rintro _ h1 ⟨x, rfl, ⟨fs, hfs⟩, hq⟩
  show mm_Wp (some [s0, s1, s2, s3, s4]) 13 mm_r195 836 [some (.retAddr 0), some (.ref 0), some (.ref 114), some (.int 0)] [.int x] h1 _
  refine wp_s (i := .aload_n 2) (n := 1) (pc' := 837) (st' := [.ref 114, .int x]) rfl rfl ?_
  refine wp_s (i := .aload_n 0) (n := 1) (pc' := 838) (st' := [.retAddr 0, .ref 114, .int x]) rfl rfl ?_
  refine wp_s (i := .iload_n 3) (n := 1) (pc' := 839) (st' := [.int 0, .retAddr 0, .ref 114, .int x]) rfl rfl ?_
  refine wp_s (i := .iconst 1) (n := 1) (pc' := 840) (st' := [.int 1, .int 0, .retAddr 0, .ref 114, .int x]) rfl rfl ?_
  refine wp_s (i := .iadd) (n := 1) (pc' := 841) (st' := [.int 1, .retAddr 0, .ref 114, .int x]) rfl rfl ?_
  refine wp_s (i := .iaload) (n := 1) (pc' := 842) (st' := [.int s1, .ref 114, .int x]) rfl rfl ?_
  refine wp_s (i := .aload_n 0) (n := 1) (pc' := 843) (st' := [.retAddr 0, .int s1, .ref 114, .int x]) rfl rfl ?_
  refine wp_s (i := .iload_n 3) (n := 1) (pc' := 844) (st' := [.int 0, .retAddr 0, .int s1, .ref 114, .int x]) rfl rfl ?_
  refine wp_s (i := .iconst 2) (n := 1) (pc' := 845) (st' := [.int 2, .int 0, .retAddr 0, .int s1, .ref 114, .int x]) rfl rfl ?_
  refine wp_s (i := .iadd) (n := 1) (pc' := 846) (st' := [.int 2, .retAddr 0, .int s1, .ref 114, .int x]) rfl rfl ?_
  refine wp_s (i := .iaload) (n := 1) (pc' := 847) (st' := [.int s2, .int s1, .ref 114, .int x]) rfl rfl ?_
  refine wp_cv (idx := 111) (Dq := 12) (r' := mm_r174) (as0 := [.int s1, .int s2]) (rest := [.int x]) (ls' := [some (.ref 114), some (.int s1), some (.int s2), none, none, none, none, none]) (pc' := 850) rfl rfl rfl rfl hfs rfl rfl rfl ?_
  refine hq.mono ?_
  rintro _ h2 ⟨rfl, hok⟩
  show mm_Wp (some [s0, s1, s2, s3, s4]) 13 mm_r195 850 [some (.retAddr 0), some (.ref 0), some (.ref 114), some (.int 0)] [.int x, .int x] h2 _
  refine wp_ic (t := 1310) (st := []) rfl rfl (fun _ => ?_) (fun hc => by simp [mm_cc] at hc)
  exact pk_end s0 s1 s2 s3 s4 h2 hok
set_option maxRecDepth 20000 in
theorem pl_23 (s0 s1 s2 s3 s4 : Int32) : mm_Wp (some [s0, s1, s2, s3, s4]) 13 mm_rL 855 [some (.retAddr 0), some (.ref 0), some (.ref 114), some (.int 0)] [] hp_0 pk_Q := by
  refine wp_s (i := .aload_n 1) (n := 1) (pc' := 856) (st' := [.ref 0]) rfl rfl ?_
  refine wp_s (i := .aload_n 0) (n := 1) (pc' := 857) (st' := [.retAddr 0, .ref 0]) rfl rfl ?_
  refine wp_s (i := .iload_n 3) (n := 1) (pc' := 858) (st' := [.int 0, .retAddr 0, .ref 0]) rfl rfl ?_
  refine wp_s (i := .iconst 1) (n := 1) (pc' := 859) (st' := [.int 1, .int 0, .retAddr 0, .ref 0]) rfl rfl ?_
  refine wp_s (i := .iadd) (n := 1) (pc' := 860) (st' := [.int 1, .retAddr 0, .ref 0]) rfl rfl ?_
  refine wp_s (i := .iaload) (n := 1) (pc' := 861) (st' := [.int s1, .ref 0]) rfl rfl ?_
  refine wp_c (i := .invokevirtual 112) (n := 3) (Dq := 12) (r' := mm_r88) (as := [.ref 0, .int s1]) (rest := []) (ls' := [some (.ref 0), some (.int s1)]) rfl rfl rfl ?_
  refine (pk_23 (some [s0, s1, s2, s3, s4]) s1).mono ?_
  rintro _ h1 ⟨x, rfl, ⟨fs, hfs⟩, hq⟩
  show mm_Wp (some [s0, s1, s2, s3, s4]) 13 mm_r195 864 [some (.retAddr 0), some (.ref 0), some (.ref 114), some (.int 0)] [.int x] h1 _
  refine wp_s (i := .aload_n 2) (n := 1) (pc' := 865) (st' := [.ref 114, .int x]) rfl rfl ?_
  refine wp_s (i := .aload_n 0) (n := 1) (pc' := 866) (st' := [.retAddr 0, .ref 114, .int x]) rfl rfl ?_
  refine wp_s (i := .iload_n 3) (n := 1) (pc' := 867) (st' := [.int 0, .retAddr 0, .ref 114, .int x]) rfl rfl ?_
  refine wp_s (i := .iconst 1) (n := 1) (pc' := 868) (st' := [.int 1, .int 0, .retAddr 0, .ref 114, .int x]) rfl rfl ?_
  refine wp_s (i := .iadd) (n := 1) (pc' := 869) (st' := [.int 1, .retAddr 0, .ref 114, .int x]) rfl rfl ?_
  refine wp_s (i := .iaload) (n := 1) (pc' := 870) (st' := [.int s1, .ref 114, .int x]) rfl rfl ?_
  refine wp_cv (idx := 115) (Dq := 12) (r' := mm_r175) (as0 := [.int s1]) (rest := [.int x]) (ls' := [some (.ref 114), some (.int s1), none, none, none, none, none, none]) (pc' := 873) rfl rfl rfl rfl hfs rfl rfl rfl ?_
  refine hq.mono ?_
  rintro _ h2 ⟨rfl, hok⟩
  show mm_Wp (some [s0, s1, s2, s3, s4]) 13 mm_r195 873 [some (.retAddr 0), some (.ref 0), some (.ref 114), some (.int 0)] [.int x, .int x] h2 _
  refine wp_ic (t := 1310) (st := []) rfl rfl (fun _ => ?_) (fun hc => by simp [mm_cc] at hc)
  exact pk_end s0 s1 s2 s3 s4 h2 hok
set_option maxRecDepth 20000 in
theorem pl_24 (s0 s1 s2 s3 s4 : Int32) : mm_Wp (some [s0, s1, s2, s3, s4]) 13 mm_rL 878 [some (.retAddr 0), some (.ref 0), some (.ref 114), some (.int 0)] [] hp_0 pk_Q := by
  refine wp_s (i := .aload_n 1) (n := 1) (pc' := 879) (st' := [.ref 0]) rfl rfl ?_
  refine wp_s (i := .aload_n 0) (n := 1) (pc' := 880) (st' := [.retAddr 0, .ref 0]) rfl rfl ?_
  refine wp_s (i := .iload_n 3) (n := 1) (pc' := 881) (st' := [.int 0, .retAddr 0, .ref 0]) rfl rfl ?_
  refine wp_s (i := .iconst 1) (n := 1) (pc' := 882) (st' := [.int 1, .int 0, .retAddr 0, .ref 0]) rfl rfl ?_
  refine wp_s (i := .iadd) (n := 1) (pc' := 883) (st' := [.int 1, .retAddr 0, .ref 0]) rfl rfl ?_
  refine wp_s (i := .iaload) (n := 1) (pc' := 884) (st' := [.int s1, .ref 0]) rfl rfl ?_
  refine wp_s (i := .aload_n 0) (n := 1) (pc' := 885) (st' := [.retAddr 0, .int s1, .ref 0]) rfl rfl ?_
  refine wp_s (i := .iload_n 3) (n := 1) (pc' := 886) (st' := [.int 0, .retAddr 0, .int s1, .ref 0]) rfl rfl ?_
  refine wp_s (i := .iconst 2) (n := 1) (pc' := 887) (st' := [.int 2, .int 0, .retAddr 0, .int s1, .ref 0]) rfl rfl ?_
  refine wp_s (i := .iadd) (n := 1) (pc' := 888) (st' := [.int 2, .retAddr 0, .int s1, .ref 0]) rfl rfl ?_
  refine wp_s (i := .iaload) (n := 1) (pc' := 889) (st' := [.int s2, .int s1, .ref 0]) rfl rfl ?_
  refine wp_c (i := .invokevirtual 116) (n := 3) (Dq := 12) (r' := mm_r89) (as := [.ref 0, .int s1, .int s2]) (rest := []) (ls' := [some (.ref 0), some (.int s1), some (.int s2)]) rfl rfl rfl ?_
  refine (pk_24 (some [s0, s1, s2, s3, s4]) s1 s2).mono ?_
  rintro _ h1 ⟨x, rfl, ⟨fs, hfs⟩, hq⟩
  show mm_Wp (some [s0, s1, s2, s3, s4]) 13 mm_r195 892 [some (.retAddr 0), some (.ref 0), some (.ref 114), some (.int 0)] [.int x] h1 _
  refine wp_s (i := .aload_n 2) (n := 1) (pc' := 893) (st' := [.ref 114, .int x]) rfl rfl ?_
  refine wp_s (i := .aload_n 0) (n := 1) (pc' := 894) (st' := [.retAddr 0, .ref 114, .int x]) rfl rfl ?_
  refine wp_s (i := .iload_n 3) (n := 1) (pc' := 895) (st' := [.int 0, .retAddr 0, .ref 114, .int x]) rfl rfl ?_
  refine wp_s (i := .iconst 1) (n := 1) (pc' := 896) (st' := [.int 1, .int 0, .retAddr 0, .ref 114, .int x]) rfl rfl ?_
  refine wp_s (i := .iadd) (n := 1) (pc' := 897) (st' := [.int 1, .retAddr 0, .ref 114, .int x]) rfl rfl ?_
  refine wp_s (i := .iaload) (n := 1) (pc' := 898) (st' := [.int s1, .ref 114, .int x]) rfl rfl ?_
  refine wp_s (i := .aload_n 0) (n := 1) (pc' := 899) (st' := [.retAddr 0, .int s1, .ref 114, .int x]) rfl rfl ?_
  refine wp_s (i := .iload_n 3) (n := 1) (pc' := 900) (st' := [.int 0, .retAddr 0, .int s1, .ref 114, .int x]) rfl rfl ?_
  refine wp_s (i := .iconst 2) (n := 1) (pc' := 901) (st' := [.int 2, .int 0, .retAddr 0, .int s1, .ref 114, .int x]) rfl rfl ?_
  refine wp_s (i := .iadd) (n := 1) (pc' := 902) (st' := [.int 2, .retAddr 0, .int s1, .ref 114, .int x]) rfl rfl ?_
  refine wp_s (i := .iaload) (n := 1) (pc' := 903) (st' := [.int s2, .int s1, .ref 114, .int x]) rfl rfl ?_
  refine wp_cv (idx := 119) (Dq := 12) (r' := mm_r177) (as0 := [.int s1, .int s2]) (rest := [.int x]) (ls' := [some (.ref 114), some (.int s1), some (.int s2), none, none, none, none, none, none, none, none]) (pc' := 906) rfl rfl rfl rfl hfs rfl rfl rfl ?_
  refine hq.mono ?_
  rintro _ h2 ⟨rfl, hok⟩
  show mm_Wp (some [s0, s1, s2, s3, s4]) 13 mm_r195 906 [some (.retAddr 0), some (.ref 0), some (.ref 114), some (.int 0)] [.int x, .int x] h2 _
  refine wp_ic (t := 1310) (st := []) rfl rfl (fun _ => ?_) (fun hc => by simp [mm_cc] at hc)
  exact pk_end s0 s1 s2 s3 s4 h2 hok
set_option maxRecDepth 20000 in
theorem pl_25 (s0 s1 s2 s3 s4 : Int32) : mm_Wp (some [s0, s1, s2, s3, s4]) 13 mm_rL 911 [some (.retAddr 0), some (.ref 0), some (.ref 114), some (.int 0)] [] hp_0 pk_Q := by
  refine wp_s (i := .aload_n 1) (n := 1) (pc' := 912) (st' := [.ref 0]) rfl rfl ?_
  refine wp_s (i := .aload_n 0) (n := 1) (pc' := 913) (st' := [.retAddr 0, .ref 0]) rfl rfl ?_
  refine wp_s (i := .iload_n 3) (n := 1) (pc' := 914) (st' := [.int 0, .retAddr 0, .ref 0]) rfl rfl ?_
  refine wp_s (i := .iconst 1) (n := 1) (pc' := 915) (st' := [.int 1, .int 0, .retAddr 0, .ref 0]) rfl rfl ?_
  refine wp_s (i := .iadd) (n := 1) (pc' := 916) (st' := [.int 1, .retAddr 0, .ref 0]) rfl rfl ?_
  refine wp_s (i := .iaload) (n := 1) (pc' := 917) (st' := [.int s1, .ref 0]) rfl rfl ?_
  refine wp_c (i := .invokevirtual 120) (n := 3) (Dq := 12) (r' := mm_r90) (as := [.ref 0, .int s1]) (rest := []) (ls' := [some (.ref 0), some (.int s1)]) rfl rfl rfl ?_
  refine (pk_25 (some [s0, s1, s2, s3, s4]) s1).mono ?_
  rintro _ h1 ⟨x, rfl, ⟨fs, hfs⟩, hq⟩
  show mm_Wp (some [s0, s1, s2, s3, s4]) 13 mm_r195 920 [some (.retAddr 0), some (.ref 0), some (.ref 114), some (.int 0)] [.int x] h1 _
  refine wp_s (i := .aload_n 2) (n := 1) (pc' := 921) (st' := [.ref 114, .int x]) rfl rfl ?_
  refine wp_s (i := .aload_n 0) (n := 1) (pc' := 922) (st' := [.retAddr 0, .ref 114, .int x]) rfl rfl ?_
  refine wp_s (i := .iload_n 3) (n := 1) (pc' := 923) (st' := [.int 0, .retAddr 0, .ref 114, .int x]) rfl rfl ?_
  refine wp_s (i := .iconst 1) (n := 1) (pc' := 924) (st' := [.int 1, .int 0, .retAddr 0, .ref 114, .int x]) rfl rfl ?_
  refine wp_s (i := .iadd) (n := 1) (pc' := 925) (st' := [.int 1, .retAddr 0, .ref 114, .int x]) rfl rfl ?_
  refine wp_s (i := .iaload) (n := 1) (pc' := 926) (st' := [.int s1, .ref 114, .int x]) rfl rfl ?_
  refine wp_cv (idx := 123) (Dq := 12) (r' := mm_r178) (as0 := [.int s1]) (rest := [.int x]) (ls' := [some (.ref 114), some (.int s1)]) (pc' := 929) rfl rfl rfl rfl hfs rfl rfl rfl ?_
  refine hq.mono ?_
  rintro _ h2 ⟨rfl, hok⟩
  show mm_Wp (some [s0, s1, s2, s3, s4]) 13 mm_r195 929 [some (.retAddr 0), some (.ref 0), some (.ref 114), some (.int 0)] [.int x, .int x] h2 _
  refine wp_ic (t := 1310) (st := []) rfl rfl (fun _ => ?_) (fun hc => by simp [mm_cc] at hc)
  exact pk_end s0 s1 s2 s3 s4 h2 hok
set_option maxRecDepth 20000 in
theorem pl_26 (s0 s1 s2 s3 s4 : Int32) : mm_Wp (some [s0, s1, s2, s3, s4]) 13 mm_rL 934 [some (.retAddr 0), some (.ref 0), some (.ref 114), some (.int 0)] [] hp_0 pk_Q := by
  refine wp_s (i := .aload_n 1) (n := 1) (pc' := 935) (st' := [.ref 0]) rfl rfl ?_
  refine wp_s (i := .aload_n 0) (n := 1) (pc' := 936) (st' := [.retAddr 0, .ref 0]) rfl rfl ?_
  refine wp_s (i := .iload_n 3) (n := 1) (pc' := 937) (st' := [.int 0, .retAddr 0, .ref 0]) rfl rfl ?_
  refine wp_s (i := .iconst 1) (n := 1) (pc' := 938) (st' := [.int 1, .int 0, .retAddr 0, .ref 0]) rfl rfl ?_
  refine wp_s (i := .iadd) (n := 1) (pc' := 939) (st' := [.int 1, .retAddr 0, .ref 0]) rfl rfl ?_
  refine wp_s (i := .iaload) (n := 1) (pc' := 940) (st' := [.int s1, .ref 0]) rfl rfl ?_
  refine wp_c (i := .invokevirtual 124) (n := 3) (Dq := 12) (r' := mm_r91) (as := [.ref 0, .int s1]) (rest := []) (ls' := [some (.ref 0), some (.int s1), none, none, none, none, none]) rfl rfl rfl ?_
  refine (pk_26 (some [s0, s1, s2, s3, s4]) s1).mono ?_
  rintro _ h1 ⟨x, rfl, ⟨fs, hfs⟩, hq⟩
  show mm_Wp (some [s0, s1, s2, s3, s4]) 13 mm_r195 943 [some (.retAddr 0), some (.ref 0), some (.ref 114), some (.int 0)] [.int x] h1 _
  refine wp_s (i := .aload_n 2) (n := 1) (pc' := 944) (st' := [.ref 114, .int x]) rfl rfl ?_
  refine wp_s (i := .aload_n 0) (n := 1) (pc' := 945) (st' := [.retAddr 0, .ref 114, .int x]) rfl rfl ?_
  refine wp_s (i := .iload_n 3) (n := 1) (pc' := 946) (st' := [.int 0, .retAddr 0, .ref 114, .int x]) rfl rfl ?_
  refine wp_s (i := .iconst 1) (n := 1) (pc' := 947) (st' := [.int 1, .int 0, .retAddr 0, .ref 114, .int x]) rfl rfl ?_
  refine wp_s (i := .iadd) (n := 1) (pc' := 948) (st' := [.int 1, .retAddr 0, .ref 114, .int x]) rfl rfl ?_
  refine wp_s (i := .iaload) (n := 1) (pc' := 949) (st' := [.int s1, .ref 114, .int x]) rfl rfl ?_
  refine wp_cv (idx := 127) (Dq := 12) (r' := mm_r179) (as0 := [.int s1]) (rest := [.int x]) (ls' := [some (.ref 114), some (.int s1), none, none, none, none, none, none]) (pc' := 952) rfl rfl rfl rfl hfs rfl rfl rfl ?_
  refine hq.mono ?_
  rintro _ h2 ⟨rfl, hok⟩
  show mm_Wp (some [s0, s1, s2, s3, s4]) 13 mm_r195 952 [some (.retAddr 0), some (.ref 0), some (.ref 114), some (.int 0)] [.int x, .int x] h2 _
  refine wp_ic (t := 1310) (st := []) rfl rfl (fun _ => ?_) (fun hc => by simp [mm_cc] at hc)
  exact pk_end s0 s1 s2 s3 s4 h2 hok
set_option maxRecDepth 20000 in
theorem pl_27 (s0 s1 s2 s3 s4 : Int32) : mm_Wp (some [s0, s1, s2, s3, s4]) 13 mm_rL 957 [some (.retAddr 0), some (.ref 0), some (.ref 114), some (.int 0)] [] hp_0 pk_Q := by
  refine wp_s (i := .aload_n 1) (n := 1) (pc' := 958) (st' := [.ref 0]) rfl rfl ?_
  refine wp_s (i := .aload_n 0) (n := 1) (pc' := 959) (st' := [.retAddr 0, .ref 0]) rfl rfl ?_
  refine wp_s (i := .iload_n 3) (n := 1) (pc' := 960) (st' := [.int 0, .retAddr 0, .ref 0]) rfl rfl ?_
  refine wp_s (i := .iconst 1) (n := 1) (pc' := 961) (st' := [.int 1, .int 0, .retAddr 0, .ref 0]) rfl rfl ?_
  refine wp_s (i := .iadd) (n := 1) (pc' := 962) (st' := [.int 1, .retAddr 0, .ref 0]) rfl rfl ?_
  refine wp_s (i := .iaload) (n := 1) (pc' := 963) (st' := [.int s1, .ref 0]) rfl rfl ?_
  refine wp_c (i := .invokevirtual 128) (n := 3) (Dq := 12) (r' := mm_r92) (as := [.ref 0, .int s1]) (rest := []) (ls' := [some (.ref 0), some (.int s1), none, none]) rfl rfl rfl ?_
  refine (pk_27 (some [s0, s1, s2, s3, s4]) s1).mono ?_
  rintro _ h1 ⟨x, rfl, ⟨fs, hfs⟩, hq⟩
  show mm_Wp (some [s0, s1, s2, s3, s4]) 13 mm_r195 966 [some (.retAddr 0), some (.ref 0), some (.ref 114), some (.int 0)] [.int x] h1 _
  refine wp_s (i := .aload_n 2) (n := 1) (pc' := 967) (st' := [.ref 114, .int x]) rfl rfl ?_
  refine wp_s (i := .aload_n 0) (n := 1) (pc' := 968) (st' := [.retAddr 0, .ref 114, .int x]) rfl rfl ?_
  refine wp_s (i := .iload_n 3) (n := 1) (pc' := 969) (st' := [.int 0, .retAddr 0, .ref 114, .int x]) rfl rfl ?_
  refine wp_s (i := .iconst 1) (n := 1) (pc' := 970) (st' := [.int 1, .int 0, .retAddr 0, .ref 114, .int x]) rfl rfl ?_
  refine wp_s (i := .iadd) (n := 1) (pc' := 971) (st' := [.int 1, .retAddr 0, .ref 114, .int x]) rfl rfl ?_
  refine wp_s (i := .iaload) (n := 1) (pc' := 972) (st' := [.int s1, .ref 114, .int x]) rfl rfl ?_
  refine wp_cv (idx := 131) (Dq := 12) (r' := mm_r180) (as0 := [.int s1]) (rest := [.int x]) (ls' := [some (.ref 114), some (.int s1), none, none]) (pc' := 975) rfl rfl rfl rfl hfs rfl rfl rfl ?_
  refine hq.mono ?_
  rintro _ h2 ⟨rfl, hok⟩
  show mm_Wp (some [s0, s1, s2, s3, s4]) 13 mm_r195 975 [some (.retAddr 0), some (.ref 0), some (.ref 114), some (.int 0)] [.int x, .int x] h2 _
  refine wp_ic (t := 1310) (st := []) rfl rfl (fun _ => ?_) (fun hc => by simp [mm_cc] at hc)
  exact pk_end s0 s1 s2 s3 s4 h2 hok
set_option maxRecDepth 20000 in
theorem pl_28 (s0 s1 s2 s3 s4 : Int32) : mm_Wp (some [s0, s1, s2, s3, s4]) 13 mm_rL 980 [some (.retAddr 0), some (.ref 0), some (.ref 114), some (.int 0)] [] hp_0 pk_Q := by
  refine wp_s (i := .aload_n 1) (n := 1) (pc' := 981) (st' := [.ref 0]) rfl rfl ?_
  refine wp_s (i := .aload_n 0) (n := 1) (pc' := 982) (st' := [.retAddr 0, .ref 0]) rfl rfl ?_
  refine wp_s (i := .iload_n 3) (n := 1) (pc' := 983) (st' := [.int 0, .retAddr 0, .ref 0]) rfl rfl ?_
  refine wp_s (i := .iconst 1) (n := 1) (pc' := 984) (st' := [.int 1, .int 0, .retAddr 0, .ref 0]) rfl rfl ?_
  refine wp_s (i := .iadd) (n := 1) (pc' := 985) (st' := [.int 1, .retAddr 0, .ref 0]) rfl rfl ?_
  refine wp_s (i := .iaload) (n := 1) (pc' := 986) (st' := [.int s1, .ref 0]) rfl rfl ?_
  refine wp_c (i := .invokevirtual 132) (n := 3) (Dq := 12) (r' := mm_r93) (as := [.ref 0, .int s1]) (rest := []) (ls' := [some (.ref 0), some (.int s1), none, none, none]) rfl rfl rfl ?_
  refine (pk_28 (some [s0, s1, s2, s3, s4]) s1).mono ?_
  rintro _ h1 ⟨x, rfl, ⟨fs, hfs⟩, hq⟩
  show mm_Wp (some [s0, s1, s2, s3, s4]) 13 mm_r195 989 [some (.retAddr 0), some (.ref 0), some (.ref 114), some (.int 0)] [.int x] h1 _
  refine wp_s (i := .aload_n 2) (n := 1) (pc' := 990) (st' := [.ref 114, .int x]) rfl rfl ?_
  refine wp_s (i := .aload_n 0) (n := 1) (pc' := 991) (st' := [.retAddr 0, .ref 114, .int x]) rfl rfl ?_
  refine wp_s (i := .iload_n 3) (n := 1) (pc' := 992) (st' := [.int 0, .retAddr 0, .ref 114, .int x]) rfl rfl ?_
  refine wp_s (i := .iconst 1) (n := 1) (pc' := 993) (st' := [.int 1, .int 0, .retAddr 0, .ref 114, .int x]) rfl rfl ?_
  refine wp_s (i := .iadd) (n := 1) (pc' := 994) (st' := [.int 1, .retAddr 0, .ref 114, .int x]) rfl rfl ?_
  refine wp_s (i := .iaload) (n := 1) (pc' := 995) (st' := [.int s1, .ref 114, .int x]) rfl rfl ?_
  refine wp_cv (idx := 135) (Dq := 12) (r' := mm_r181) (as0 := [.int s1]) (rest := [.int x]) (ls' := [some (.ref 114), some (.int s1), none, none, none]) (pc' := 998) rfl rfl rfl rfl hfs rfl rfl rfl ?_
  refine hq.mono ?_
  rintro _ h2 ⟨rfl, hok⟩
  show mm_Wp (some [s0, s1, s2, s3, s4]) 13 mm_r195 998 [some (.retAddr 0), some (.ref 0), some (.ref 114), some (.int 0)] [.int x, .int x] h2 _
  refine wp_ic (t := 1310) (st := []) rfl rfl (fun _ => ?_) (fun hc => by simp [mm_cc] at hc)
  exact pk_end s0 s1 s2 s3 s4 h2 hok
set_option maxRecDepth 20000 in
theorem pl_29 (s0 s1 s2 s3 s4 : Int32) : mm_Wp (some [s0, s1, s2, s3, s4]) 13 mm_rL 1003 [some (.retAddr 0), some (.ref 0), some (.ref 114), some (.int 0)] [] hp_0 pk_Q := by
  refine wp_s (i := .aload_n 1) (n := 1) (pc' := 1004) (st' := [.ref 0]) rfl rfl ?_
  refine wp_s (i := .aload_n 0) (n := 1) (pc' := 1005) (st' := [.retAddr 0, .ref 0]) rfl rfl ?_
  refine wp_s (i := .iload_n 3) (n := 1) (pc' := 1006) (st' := [.int 0, .retAddr 0, .ref 0]) rfl rfl ?_
  refine wp_s (i := .iconst 1) (n := 1) (pc' := 1007) (st' := [.int 1, .int 0, .retAddr 0, .ref 0]) rfl rfl ?_
  refine wp_s (i := .iadd) (n := 1) (pc' := 1008) (st' := [.int 1, .retAddr 0, .ref 0]) rfl rfl ?_
  refine wp_s (i := .iaload) (n := 1) (pc' := 1009) (st' := [.int s1, .ref 0]) rfl rfl ?_
  refine wp_s (i := .aload_n 0) (n := 1) (pc' := 1010) (st' := [.retAddr 0, .int s1, .ref 0]) rfl rfl ?_
  refine wp_s (i := .iload_n 3) (n := 1) (pc' := 1011) (st' := [.int 0, .retAddr 0, .int s1, .ref 0]) rfl rfl ?_
  refine wp_s (i := .iconst 2) (n := 1) (pc' := 1012) (st' := [.int 2, .int 0, .retAddr 0, .int s1, .ref 0]) rfl rfl ?_
  refine wp_s (i := .iadd) (n := 1) (pc' := 1013) (st' := [.int 2, .retAddr 0, .int s1, .ref 0]) rfl rfl ?_
  refine wp_s (i := .iaload) (n := 1) (pc' := 1014) (st' := [.int s2, .int s1, .ref 0]) rfl rfl ?_
  refine wp_c (i := .invokevirtual 136) (n := 3) (Dq := 12) (r' := mm_r94) (as := [.ref 0, .int s1, .int s2]) (rest := []) (ls' := [some (.ref 0), some (.int s1), some (.int s2), none, none, none]) rfl rfl rfl ?_
  refine (pk_29 (some [s0, s1, s2, s3, s4]) s1 s2).mono ?_
  rintro _ h1 ⟨x, rfl, ⟨fs, hfs⟩, hq⟩
  show mm_Wp (some [s0, s1, s2, s3, s4]) 13 mm_r195 1017 [some (.retAddr 0), some (.ref 0), some (.ref 114), some (.int 0)] [.int x] h1 _
  refine wp_s (i := .aload_n 2) (n := 1) (pc' := 1018) (st' := [.ref 114, .int x]) rfl rfl ?_
  refine wp_s (i := .aload_n 0) (n := 1) (pc' := 1019) (st' := [.retAddr 0, .ref 114, .int x]) rfl rfl ?_
  refine wp_s (i := .iload_n 3) (n := 1) (pc' := 1020) (st' := [.int 0, .retAddr 0, .ref 114, .int x]) rfl rfl ?_
  refine wp_s (i := .iconst 1) (n := 1) (pc' := 1021) (st' := [.int 1, .int 0, .retAddr 0, .ref 114, .int x]) rfl rfl ?_
  refine wp_s (i := .iadd) (n := 1) (pc' := 1022) (st' := [.int 1, .retAddr 0, .ref 114, .int x]) rfl rfl ?_
  refine wp_s (i := .iaload) (n := 1) (pc' := 1023) (st' := [.int s1, .ref 114, .int x]) rfl rfl ?_
  refine wp_s (i := .aload_n 0) (n := 1) (pc' := 1024) (st' := [.retAddr 0, .int s1, .ref 114, .int x]) rfl rfl ?_
  refine wp_s (i := .iload_n 3) (n := 1) (pc' := 1025) (st' := [.int 0, .retAddr 0, .int s1, .ref 114, .int x]) rfl rfl ?_
  refine wp_s (i := .iconst 2) (n := 1) (pc' := 1026) (st' := [.int 2, .int 0, .retAddr 0, .int s1, .ref 114, .int x]) rfl rfl ?_
  refine wp_s (i := .iadd) (n := 1) (pc' := 1027) (st' := [.int 2, .retAddr 0, .int s1, .ref 114, .int x]) rfl rfl ?_
  refine wp_s (i := .iaload) (n := 1) (pc' := 1028) (st' := [.int s2, .int s1, .ref 114, .int x]) rfl rfl ?_
  refine wp_cv (idx := 139) (Dq := 12) (r' := mm_r182) (as0 := [.int s1, .int s2]) (rest := [.int x]) (ls' := [some (.ref 114), some (.int s1), some (.int s2), none]) (pc' := 1031) rfl rfl rfl rfl hfs rfl rfl rfl ?_
  refine hq.mono ?_
  rintro _ h2 ⟨rfl, hok⟩
  show mm_Wp (some [s0, s1, s2, s3, s4]) 13 mm_r195 1031 [some (.retAddr 0), some (.ref 0), some (.ref 114), some (.int 0)] [.int x, .int x] h2 _
  refine wp_ic (t := 1310) (st := []) rfl rfl (fun _ => ?_) (fun hc => by simp [mm_cc] at hc)
  exact pk_end s0 s1 s2 s3 s4 h2 hok
set_option maxRecDepth 20000 in
theorem pl_30 (s0 s1 s2 s3 s4 : Int32) : mm_Wp (some [s0, s1, s2, s3, s4]) 13 mm_rL 1036 [some (.retAddr 0), some (.ref 0), some (.ref 114), some (.int 0)] [] hp_0 pk_Q := by
  refine wp_s (i := .aload_n 1) (n := 1) (pc' := 1037) (st' := [.ref 0]) rfl rfl ?_
  refine wp_s (i := .aload_n 0) (n := 1) (pc' := 1038) (st' := [.retAddr 0, .ref 0]) rfl rfl ?_
  refine wp_s (i := .iload_n 3) (n := 1) (pc' := 1039) (st' := [.int 0, .retAddr 0, .ref 0]) rfl rfl ?_
  refine wp_s (i := .iconst 1) (n := 1) (pc' := 1040) (st' := [.int 1, .int 0, .retAddr 0, .ref 0]) rfl rfl ?_
  refine wp_s (i := .iadd) (n := 1) (pc' := 1041) (st' := [.int 1, .retAddr 0, .ref 0]) rfl rfl ?_
  refine wp_s (i := .iaload) (n := 1) (pc' := 1042) (st' := [.int s1, .ref 0]) rfl rfl ?_
  refine wp_s (i := .aload_n 0) (n := 1) (pc' := 1043) (st' := [.retAddr 0, .int s1, .ref 0]) rfl rfl ?_
  refine wp_s (i := .iload_n 3) (n := 1) (pc' := 1044) (st' := [.int 0, .retAddr 0, .int s1, .ref 0]) rfl rfl ?_
  refine wp_s (i := .iconst 2) (n := 1) (pc' := 1045) (st' := [.int 2, .int 0, .retAddr 0, .int s1, .ref 0]) rfl rfl ?_
  refine wp_s (i := .iadd) (n := 1) (pc' := 1046) (st' := [.int 2, .retAddr 0, .int s1, .ref 0]) rfl rfl ?_
  refine wp_s (i := .iaload) (n := 1) (pc' := 1047) (st' := [.int s2, .int s1, .ref 0]) rfl rfl ?_
  refine wp_s (i := .aload_n 0) (n := 1) (pc' := 1048) (st' := [.retAddr 0, .int s2, .int s1, .ref 0]) rfl rfl ?_
  refine wp_s (i := .iload_n 3) (n := 1) (pc' := 1049) (st' := [.int 0, .retAddr 0, .int s2, .int s1, .ref 0]) rfl rfl ?_
  refine wp_s (i := .iconst 3) (n := 1) (pc' := 1050) (st' := [.int 3, .int 0, .retAddr 0, .int s2, .int s1, .ref 0]) rfl rfl ?_
  refine wp_s (i := .iadd) (n := 1) (pc' := 1051) (st' := [.int 3, .retAddr 0, .int s2, .int s1, .ref 0]) rfl rfl ?_
  refine wp_s (i := .iaload) (n := 1) (pc' := 1052) (st' := [.int s3, .int s2, .int s1, .ref 0]) rfl rfl ?_
  refine wp_s (i := .aload_n 0) (n := 1) (pc' := 1053) (st' := [.retAddr 0, .int s3, .int s2, .int s1, .ref 0]) rfl rfl ?_
  refine wp_s (i := .iload_n 3) (n := 1) (pc' := 1054) (st' := [.int 0, .retAddr 0, .int s3, .int s2, .int s1, .ref 0]) rfl rfl ?_
  refine wp_s (i := .iconst 4) (n := 1) (pc' := 1055) (st' := [.int 4, .int 0, .retAddr 0, .int s3, .int s2, .int s1, .ref 0]) rfl rfl ?_
  refine wp_s (i := .iadd) (n := 1) (pc' := 1056) (st' := [.int 4, .retAddr 0, .int s3, .int s2, .int s1, .ref 0]) rfl rfl ?_
  refine wp_s (i := .iaload) (n := 1) (pc' := 1057) (st' := [.int s4, .int s3, .int s2, .int s1, .ref 0]) rfl rfl ?_
  refine wp_c (i := .invokevirtual 140) (n := 3) (Dq := 12) (r' := mm_r95) (as := [.ref 0, .int s1, .int s2, .int s3, .int s4]) (rest := []) (ls' := [some (.ref 0), some (.int s1), some (.int s2), some (.int s3), some (.int s4), none, none, none, none]) rfl rfl rfl ?_
  refine (pk_30 (some [s0, s1, s2, s3, s4]) s1 s2 s3 s4).mono ?_
  rintro _ h1 ⟨x, rfl, ⟨fs, hfs⟩, hq⟩
  show mm_Wp (some [s0, s1, s2, s3, s4]) 13 mm_r195 1060 [some (.retAddr 0), some (.ref 0), some (.ref 114), some (.int 0)] [.int x] h1 _
  refine wp_s (i := .aload_n 2) (n := 1) (pc' := 1061) (st' := [.ref 114, .int x]) rfl rfl ?_
  refine wp_s (i := .aload_n 0) (n := 1) (pc' := 1062) (st' := [.retAddr 0, .ref 114, .int x]) rfl rfl ?_
  refine wp_s (i := .iload_n 3) (n := 1) (pc' := 1063) (st' := [.int 0, .retAddr 0, .ref 114, .int x]) rfl rfl ?_
  refine wp_s (i := .iconst 1) (n := 1) (pc' := 1064) (st' := [.int 1, .int 0, .retAddr 0, .ref 114, .int x]) rfl rfl ?_
  refine wp_s (i := .iadd) (n := 1) (pc' := 1065) (st' := [.int 1, .retAddr 0, .ref 114, .int x]) rfl rfl ?_
  refine wp_s (i := .iaload) (n := 1) (pc' := 1066) (st' := [.int s1, .ref 114, .int x]) rfl rfl ?_
  refine wp_s (i := .aload_n 0) (n := 1) (pc' := 1067) (st' := [.retAddr 0, .int s1, .ref 114, .int x]) rfl rfl ?_
  refine wp_s (i := .iload_n 3) (n := 1) (pc' := 1068) (st' := [.int 0, .retAddr 0, .int s1, .ref 114, .int x]) rfl rfl ?_
  refine wp_s (i := .iconst 2) (n := 1) (pc' := 1069) (st' := [.int 2, .int 0, .retAddr 0, .int s1, .ref 114, .int x]) rfl rfl ?_
  refine wp_s (i := .iadd) (n := 1) (pc' := 1070) (st' := [.int 2, .retAddr 0, .int s1, .ref 114, .int x]) rfl rfl ?_
  refine wp_s (i := .iaload) (n := 1) (pc' := 1071) (st' := [.int s2, .int s1, .ref 114, .int x]) rfl rfl ?_
  refine wp_s (i := .aload_n 0) (n := 1) (pc' := 1072) (st' := [.retAddr 0, .int s2, .int s1, .ref 114, .int x]) rfl rfl ?_
  refine wp_s (i := .iload_n 3) (n := 1) (pc' := 1073) (st' := [.int 0, .retAddr 0, .int s2, .int s1, .ref 114, .int x]) rfl rfl ?_
  refine wp_s (i := .iconst 3) (n := 1) (pc' := 1074) (st' := [.int 3, .int 0, .retAddr 0, .int s2, .int s1, .ref 114, .int x]) rfl rfl ?_
  refine wp_s (i := .iadd) (n := 1) (pc' := 1075) (st' := [.int 3, .retAddr 0, .int s2, .int s1, .ref 114, .int x]) rfl rfl ?_
  refine wp_s (i := .iaload) (n := 1) (pc' := 1076) (st' := [.int s3, .int s2, .int s1, .ref 114, .int x]) rfl rfl ?_
  refine wp_s (i := .aload_n 0) (n := 1) (pc' := 1077) (st' := [.retAddr 0, .int s3, .int s2, .int s1, .ref 114, .int x]) rfl rfl ?_
  refine wp_s (i := .iload_n 3) (n := 1) (pc' := 1078) (st' := [.int 0, .retAddr 0, .int s3, .int s2, .int s1, .ref 114, .int x]) rfl rfl ?_
  refine wp_s (i := .iconst 4) (n := 1) (pc' := 1079) (st' := [.int 4, .int 0, .retAddr 0, .int s3, .int s2, .int s1, .ref 114, .int x]) rfl rfl ?_
  refine wp_s (i := .iadd) (n := 1) (pc' := 1080) (st' := [.int 4, .retAddr 0, .int s3, .int s2, .int s1, .ref 114, .int x]) rfl rfl ?_
  refine wp_s (i := .iaload) (n := 1) (pc' := 1081) (st' := [.int s4, .int s3, .int s2, .int s1, .ref 114, .int x]) rfl rfl ?_
  refine wp_cv (idx := 144) (Dq := 12) (r' := mm_r183) (as0 := [.int s1, .int s2, .int s3, .int s4]) (rest := [.int x]) (ls' := [some (.ref 114), some (.int s1), some (.int s2), some (.int s3), some (.int s4), none, none, none, none]) (pc' := 1084) rfl rfl rfl rfl hfs rfl rfl rfl ?_
  refine hq.mono ?_
  rintro _ h2 ⟨rfl, hok⟩
  show mm_Wp (some [s0, s1, s2, s3, s4]) 13 mm_r195 1084 [some (.retAddr 0), some (.ref 0), some (.ref 114), some (.int 0)] [.int x, .int x] h2 _
  refine wp_ic (t := 1310) (st := []) rfl rfl (fun _ => ?_) (fun hc => by simp [mm_cc] at hc)
  exact pk_end s0 s1 s2 s3 s4 h2 hok
set_option maxRecDepth 20000 in
theorem pl_31 (s0 s1 s2 s3 s4 : Int32) : mm_Wp (some [s0, s1, s2, s3, s4]) 13 mm_rL 1089 [some (.retAddr 0), some (.ref 0), some (.ref 114), some (.int 0)] [] hp_0 pk_Q := by
  refine wp_s (i := .aload_n 1) (n := 1) (pc' := 1090) (st' := [.ref 0]) rfl rfl ?_
  refine wp_s (i := .aload_n 0) (n := 1) (pc' := 1091) (st' := [.retAddr 0, .ref 0]) rfl rfl ?_
  refine wp_s (i := .iload_n 3) (n := 1) (pc' := 1092) (st' := [.int 0, .retAddr 0, .ref 0]) rfl rfl ?_
  refine wp_s (i := .iconst 1) (n := 1) (pc' := 1093) (st' := [.int 1, .int 0, .retAddr 0, .ref 0]) rfl rfl ?_
  refine wp_s (i := .iadd) (n := 1) (pc' := 1094) (st' := [.int 1, .retAddr 0, .ref 0]) rfl rfl ?_
  refine wp_s (i := .iaload) (n := 1) (pc' := 1095) (st' := [.int s1, .ref 0]) rfl rfl ?_
  refine wp_c (i := .invokevirtual 145) (n := 3) (Dq := 12) (r' := mm_r96) (as := [.ref 0, .int s1]) (rest := []) (ls' := [some (.ref 0), some (.int s1), none, none]) rfl rfl rfl ?_
  refine (pk_31 (some [s0, s1, s2, s3, s4]) s1).mono ?_
  rintro _ h1 ⟨x, rfl, ⟨fs, hfs⟩, hq⟩
  show mm_Wp (some [s0, s1, s2, s3, s4]) 13 mm_r195 1098 [some (.retAddr 0), some (.ref 0), some (.ref 114), some (.int 0)] [.int x] h1 _
  refine wp_s (i := .aload_n 2) (n := 1) (pc' := 1099) (st' := [.ref 114, .int x]) rfl rfl ?_
  refine wp_s (i := .aload_n 0) (n := 1) (pc' := 1100) (st' := [.retAddr 0, .ref 114, .int x]) rfl rfl ?_
  refine wp_s (i := .iload_n 3) (n := 1) (pc' := 1101) (st' := [.int 0, .retAddr 0, .ref 114, .int x]) rfl rfl ?_
  refine wp_s (i := .iconst 1) (n := 1) (pc' := 1102) (st' := [.int 1, .int 0, .retAddr 0, .ref 114, .int x]) rfl rfl ?_
  refine wp_s (i := .iadd) (n := 1) (pc' := 1103) (st' := [.int 1, .retAddr 0, .ref 114, .int x]) rfl rfl ?_
  refine wp_s (i := .iaload) (n := 1) (pc' := 1104) (st' := [.int s1, .ref 114, .int x]) rfl rfl ?_
  refine wp_cv (idx := 148) (Dq := 12) (r' := mm_r185) (as0 := [.int s1]) (rest := [.int x]) (ls' := [some (.ref 114), some (.int s1), none]) (pc' := 1107) rfl rfl rfl rfl hfs rfl rfl rfl ?_
  refine hq.mono ?_
  rintro _ h2 ⟨rfl, hok⟩
  show mm_Wp (some [s0, s1, s2, s3, s4]) 13 mm_r195 1107 [some (.retAddr 0), some (.ref 0), some (.ref 114), some (.int 0)] [.int x, .int x] h2 _
  refine wp_ic (t := 1310) (st := []) rfl rfl (fun _ => ?_) (fun hc => by simp [mm_cc] at hc)
  exact pk_end s0 s1 s2 s3 s4 h2 hok
set_option maxRecDepth 20000 in
theorem pl_32 (s0 s1 s2 s3 s4 : Int32) : mm_Wp (some [s0, s1, s2, s3, s4]) 13 mm_rL 1112 [some (.retAddr 0), some (.ref 0), some (.ref 114), some (.int 0)] [] hp_0 pk_Q := by
  refine wp_s (i := .aload_n 1) (n := 1) (pc' := 1113) (st' := [.ref 0]) rfl rfl ?_
  refine wp_s (i := .aload_n 0) (n := 1) (pc' := 1114) (st' := [.retAddr 0, .ref 0]) rfl rfl ?_
  refine wp_s (i := .iload_n 3) (n := 1) (pc' := 1115) (st' := [.int 0, .retAddr 0, .ref 0]) rfl rfl ?_
  refine wp_s (i := .iconst 1) (n := 1) (pc' := 1116) (st' := [.int 1, .int 0, .retAddr 0, .ref 0]) rfl rfl ?_
  refine wp_s (i := .iadd) (n := 1) (pc' := 1117) (st' := [.int 1, .retAddr 0, .ref 0]) rfl rfl ?_
  refine wp_s (i := .iaload) (n := 1) (pc' := 1118) (st' := [.int s1, .ref 0]) rfl rfl ?_
  refine wp_c (i := .invokevirtual 149) (n := 3) (Dq := 12) (r' := mm_r97) (as := [.ref 0, .int s1]) (rest := []) (ls' := [some (.ref 0), some (.int s1), none]) rfl rfl rfl ?_
  refine (pk_32 (some [s0, s1, s2, s3, s4]) s1).mono ?_
  rintro _ h1 ⟨x, rfl, ⟨fs, hfs⟩, hq⟩
  show mm_Wp (some [s0, s1, s2, s3, s4]) 13 mm_r195 1121 [some (.retAddr 0), some (.ref 0), some (.ref 114), some (.int 0)] [.int x] h1 _
  refine wp_s (i := .aload_n 2) (n := 1) (pc' := 1122) (st' := [.ref 114, .int x]) rfl rfl ?_
  refine wp_s (i := .aload_n 0) (n := 1) (pc' := 1123) (st' := [.retAddr 0, .ref 114, .int x]) rfl rfl ?_
  refine wp_s (i := .iload_n 3) (n := 1) (pc' := 1124) (st' := [.int 0, .retAddr 0, .ref 114, .int x]) rfl rfl ?_
  refine wp_s (i := .iconst 1) (n := 1) (pc' := 1125) (st' := [.int 1, .int 0, .retAddr 0, .ref 114, .int x]) rfl rfl ?_
  refine wp_s (i := .iadd) (n := 1) (pc' := 1126) (st' := [.int 1, .retAddr 0, .ref 114, .int x]) rfl rfl ?_
  refine wp_s (i := .iaload) (n := 1) (pc' := 1127) (st' := [.int s1, .ref 114, .int x]) rfl rfl ?_
  refine wp_cv (idx := 152) (Dq := 12) (r' := mm_r186) (as0 := [.int s1]) (rest := [.int x]) (ls' := [some (.ref 114), some (.int s1)]) (pc' := 1130) rfl rfl rfl rfl hfs rfl rfl rfl ?_
  refine hq.mono ?_
  rintro _ h2 ⟨rfl, hok⟩
  show mm_Wp (some [s0, s1, s2, s3, s4]) 13 mm_r195 1130 [some (.retAddr 0), some (.ref 0), some (.ref 114), some (.int 0)] [.int x, .int x] h2 _
  refine wp_ic (t := 1310) (st := []) rfl rfl (fun _ => ?_) (fun hc => by simp [mm_cc] at hc)
  exact pk_end s0 s1 s2 s3 s4 h2 hok
set_option maxRecDepth 20000 in
theorem pl_33 (s0 s1 s2 s3 s4 : Int32) : mm_Wp (some [s0, s1, s2, s3, s4]) 13 mm_rL 1135 [some (.retAddr 0), some (.ref 0), some (.ref 114), some (.int 0)] [] hp_0 pk_Q := by
  refine wp_s (i := .aload_n 1) (n := 1) (pc' := 1136) (st' := [.ref 0]) rfl rfl ?_
  refine wp_s (i := .aload_n 0) (n := 1) (pc' := 1137) (st' := [.retAddr 0, .ref 0]) rfl rfl ?_
  refine wp_s (i := .iload_n 3) (n := 1) (pc' := 1138) (st' := [.int 0, .retAddr 0, .ref 0]) rfl rfl ?_
  refine wp_s (i := .iconst 1) (n := 1) (pc' := 1139) (st' := [.int 1, .int 0, .retAddr 0, .ref 0]) rfl rfl ?_
  refine wp_s (i := .iadd) (n := 1) (pc' := 1140) (st' := [.int 1, .retAddr 0, .ref 0]) rfl rfl ?_
  refine wp_s (i := .iaload) (n := 1) (pc' := 1141) (st' := [.int s1, .ref 0]) rfl rfl ?_
  refine wp_s (i := .aload_n 0) (n := 1) (pc' := 1142) (st' := [.retAddr 0, .int s1, .ref 0]) rfl rfl ?_
  refine wp_s (i := .iload_n 3) (n := 1) (pc' := 1143) (st' := [.int 0, .retAddr 0, .int s1, .ref 0]) rfl rfl ?_
  refine wp_s (i := .iconst 2) (n := 1) (pc' := 1144) (st' := [.int 2, .int 0, .retAddr 0, .int s1, .ref 0]) rfl rfl ?_
  refine wp_s (i := .iadd) (n := 1) (pc' := 1145) (st' := [.int 2, .retAddr 0, .int s1, .ref 0]) rfl rfl ?_
  refine wp_s (i := .iaload) (n := 1) (pc' := 1146) (st' := [.int s2, .int s1, .ref 0]) rfl rfl ?_
  refine wp_s (i := .aload_n 0) (n := 1) (pc' := 1147) (st' := [.retAddr 0, .int s2, .int s1, .ref 0]) rfl rfl ?_
  refine wp_s (i := .iload_n 3) (n := 1) (pc' := 1148) (st' := [.int 0, .retAddr 0, .int s2, .int s1, .ref 0]) rfl rfl ?_
  refine wp_s (i := .iconst 3) (n := 1) (pc' := 1149) (st' := [.int 3, .int 0, .retAddr 0, .int s2, .int s1, .ref 0]) rfl rfl ?_
  refine wp_s (i := .iadd) (n := 1) (pc' := 1150) (st' := [.int 3, .retAddr 0, .int s2, .int s1, .ref 0]) rfl rfl ?_
  refine wp_s (i := .iaload) (n := 1) (pc' := 1151) (st' := [.int s3, .int s2, .int s1, .ref 0]) rfl rfl ?_
  refine wp_c (i := .invokevirtual 153) (n := 3) (Dq := 12) (r' := mm_r98) (as := [.ref 0, .int s1, .int s2, .int s3]) (rest := []) (ls' := [some (.ref 0), some (.int s1), some (.int s2), some (.int s3)]) rfl rfl rfl ?_
  refine (pk_33 (some [s0, s1, s2, s3, s4]) s1 s2 s3).mono ?_
  rintro _ h1 ⟨x, rfl, ⟨fs, hfs⟩, hq⟩
  show mm_Wp (some [s0, s1, s2, s3, s4]) 13 mm_r195 1154 [some (.retAddr 0), some (.ref 0), some (.ref 114), some (.int 0)] [.int x] h1 _
  refine wp_s (i := .aload_n 2) (n := 1) (pc' := 1155) (st' := [.ref 114, .int x]) rfl rfl ?_
  refine wp_s (i := .aload_n 0) (n := 1) (pc' := 1156) (st' := [.retAddr 0, .ref 114, .int x]) rfl rfl ?_
  refine wp_s (i := .iload_n 3) (n := 1) (pc' := 1157) (st' := [.int 0, .retAddr 0, .ref 114, .int x]) rfl rfl ?_
  refine wp_s (i := .iconst 1) (n := 1) (pc' := 1158) (st' := [.int 1, .int 0, .retAddr 0, .ref 114, .int x]) rfl rfl ?_
  refine wp_s (i := .iadd) (n := 1) (pc' := 1159) (st' := [.int 1, .retAddr 0, .ref 114, .int x]) rfl rfl ?_
  refine wp_s (i := .iaload) (n := 1) (pc' := 1160) (st' := [.int s1, .ref 114, .int x]) rfl rfl ?_
  refine wp_s (i := .aload_n 0) (n := 1) (pc' := 1161) (st' := [.retAddr 0, .int s1, .ref 114, .int x]) rfl rfl ?_
  refine wp_s (i := .iload_n 3) (n := 1) (pc' := 1162) (st' := [.int 0, .retAddr 0, .int s1, .ref 114, .int x]) rfl rfl ?_
  refine wp_s (i := .iconst 2) (n := 1) (pc' := 1163) (st' := [.int 2, .int 0, .retAddr 0, .int s1, .ref 114, .int x]) rfl rfl ?_
  refine wp_s (i := .iadd) (n := 1) (pc' := 1164) (st' := [.int 2, .retAddr 0, .int s1, .ref 114, .int x]) rfl rfl ?_
  refine wp_s (i := .iaload) (n := 1) (pc' := 1165) (st' := [.int s2, .int s1, .ref 114, .int x]) rfl rfl ?_
  refine wp_s (i := .aload_n 0) (n := 1) (pc' := 1166) (st' := [.retAddr 0, .int s2, .int s1, .ref 114, .int x]) rfl rfl ?_
  refine wp_s (i := .iload_n 3) (n := 1) (pc' := 1167) (st' := [.int 0, .retAddr 0, .int s2, .int s1, .ref 114, .int x]) rfl rfl ?_
  refine wp_s (i := .iconst 3) (n := 1) (pc' := 1168) (st' := [.int 3, .int 0, .retAddr 0, .int s2, .int s1, .ref 114, .int x]) rfl rfl ?_
  refine wp_s (i := .iadd) (n := 1) (pc' := 1169) (st' := [.int 3, .retAddr 0, .int s2, .int s1, .ref 114, .int x]) rfl rfl ?_
  refine wp_s (i := .iaload) (n := 1) (pc' := 1170) (st' := [.int s3, .int s2, .int s1, .ref 114, .int x]) rfl rfl ?_
  refine wp_cv (idx := 157) (Dq := 12) (r' := mm_r187) (as0 := [.int s1, .int s2, .int s3]) (rest := [.int x]) (ls' := [some (.ref 114), some (.int s1), some (.int s2), some (.int s3), none]) (pc' := 1173) rfl rfl rfl rfl hfs rfl rfl rfl ?_
  refine hq.mono ?_
  rintro _ h2 ⟨rfl, hok⟩
  show mm_Wp (some [s0, s1, s2, s3, s4]) 13 mm_r195 1173 [some (.retAddr 0), some (.ref 0), some (.ref 114), some (.int 0)] [.int x, .int x] h2 _
  refine wp_ic (t := 1310) (st := []) rfl rfl (fun _ => ?_) (fun hc => by simp [mm_cc] at hc)
  exact pk_end s0 s1 s2 s3 s4 h2 hok
set_option maxRecDepth 20000 in
theorem pl_34 (s0 s1 s2 s3 s4 : Int32) : mm_Wp (some [s0, s1, s2, s3, s4]) 13 mm_rL 1178 [some (.retAddr 0), some (.ref 0), some (.ref 114), some (.int 0)] [] hp_0 pk_Q := by
  refine wp_s (i := .aload_n 1) (n := 1) (pc' := 1179) (st' := [.ref 0]) rfl rfl ?_
  refine wp_s (i := .aload_n 0) (n := 1) (pc' := 1180) (st' := [.retAddr 0, .ref 0]) rfl rfl ?_
  refine wp_s (i := .iload_n 3) (n := 1) (pc' := 1181) (st' := [.int 0, .retAddr 0, .ref 0]) rfl rfl ?_
  refine wp_s (i := .iconst 1) (n := 1) (pc' := 1182) (st' := [.int 1, .int 0, .retAddr 0, .ref 0]) rfl rfl ?_
  refine wp_s (i := .iadd) (n := 1) (pc' := 1183) (st' := [.int 1, .retAddr 0, .ref 0]) rfl rfl ?_
  refine wp_s (i := .iaload) (n := 1) (pc' := 1184) (st' := [.int s1, .ref 0]) rfl rfl ?_
  refine wp_s (i := .aload_n 0) (n := 1) (pc' := 1185) (st' := [.retAddr 0, .int s1, .ref 0]) rfl rfl ?_
  refine wp_s (i := .iload_n 3) (n := 1) (pc' := 1186) (st' := [.int 0, .retAddr 0, .int s1, .ref 0]) rfl rfl ?_
  refine wp_s (i := .iconst 2) (n := 1) (pc' := 1187) (st' := [.int 2, .int 0, .retAddr 0, .int s1, .ref 0]) rfl rfl ?_
  refine wp_s (i := .iadd) (n := 1) (pc' := 1188) (st' := [.int 2, .retAddr 0, .int s1, .ref 0]) rfl rfl ?_
  refine wp_s (i := .iaload) (n := 1) (pc' := 1189) (st' := [.int s2, .int s1, .ref 0]) rfl rfl ?_
  refine wp_s (i := .aload_n 0) (n := 1) (pc' := 1190) (st' := [.retAddr 0, .int s2, .int s1, .ref 0]) rfl rfl ?_
  refine wp_s (i := .iload_n 3) (n := 1) (pc' := 1191) (st' := [.int 0, .retAddr 0, .int s2, .int s1, .ref 0]) rfl rfl ?_
  refine wp_s (i := .iconst 3) (n := 1) (pc' := 1192) (st' := [.int 3, .int 0, .retAddr 0, .int s2, .int s1, .ref 0]) rfl rfl ?_
  refine wp_s (i := .iadd) (n := 1) (pc' := 1193) (st' := [.int 3, .retAddr 0, .int s2, .int s1, .ref 0]) rfl rfl ?_
  refine wp_s (i := .iaload) (n := 1) (pc' := 1194) (st' := [.int s3, .int s2, .int s1, .ref 0]) rfl rfl ?_
  refine wp_c (i := .invokevirtual 158) (n := 3) (Dq := 12) (r' := mm_r99) (as := [.ref 0, .int s1, .int s2, .int s3]) (rest := []) (ls' := [some (.ref 0), some (.int s1), some (.int s2), some (.int s3), none, none]) rfl rfl rfl ?_
  refine (pk_34 (some [s0, s1, s2, s3, s4]) s1 s2 s3).mono ?_
  rintro _ h1 ⟨x, rfl, ⟨fs, hfs⟩, hq⟩
  show mm_Wp (some [s0, s1, s2, s3, s4]) 13 mm_r195 1197 [some (.retAddr 0), some (.ref 0), some (.ref 114), some (.int 0)] [.int x] h1 _
  refine wp_s (i := .aload_n 2) (n := 1) (pc' := 1198) (st' := [.ref 114, .int x]) rfl rfl ?_
  refine wp_s (i := .aload_n 0) (n := 1) (pc' := 1199) (st' := [.retAddr 0, .ref 114, .int x]) rfl rfl ?_
  refine wp_s (i := .iload_n 3) (n := 1) (pc' := 1200) (st' := [.int 0, .retAddr 0, .ref 114, .int x]) rfl rfl ?_
  refine wp_s (i := .iconst 1) (n := 1) (pc' := 1201) (st' := [.int 1, .int 0, .retAddr 0, .ref 114, .int x]) rfl rfl ?_
  refine wp_s (i := .iadd) (n := 1) (pc' := 1202) (st' := [.int 1, .retAddr 0, .ref 114, .int x]) rfl rfl ?_
  refine wp_s (i := .iaload) (n := 1) (pc' := 1203) (st' := [.int s1, .ref 114, .int x]) rfl rfl ?_
  refine wp_s (i := .aload_n 0) (n := 1) (pc' := 1204) (st' := [.retAddr 0, .int s1, .ref 114, .int x]) rfl rfl ?_
  refine wp_s (i := .iload_n 3) (n := 1) (pc' := 1205) (st' := [.int 0, .retAddr 0, .int s1, .ref 114, .int x]) rfl rfl ?_
  refine wp_s (i := .iconst 2) (n := 1) (pc' := 1206) (st' := [.int 2, .int 0, .retAddr 0, .int s1, .ref 114, .int x]) rfl rfl ?_
  refine wp_s (i := .iadd) (n := 1) (pc' := 1207) (st' := [.int 2, .retAddr 0, .int s1, .ref 114, .int x]) rfl rfl ?_
  refine wp_s (i := .iaload) (n := 1) (pc' := 1208) (st' := [.int s2, .int s1, .ref 114, .int x]) rfl rfl ?_
  refine wp_s (i := .aload_n 0) (n := 1) (pc' := 1209) (st' := [.retAddr 0, .int s2, .int s1, .ref 114, .int x]) rfl rfl ?_
  refine wp_s (i := .iload_n 3) (n := 1) (pc' := 1210) (st' := [.int 0, .retAddr 0, .int s2, .int s1, .ref 114, .int x]) rfl rfl ?_
  refine wp_s (i := .iconst 3) (n := 1) (pc' := 1211) (st' := [.int 3, .int 0, .retAddr 0, .int s2, .int s1, .ref 114, .int x]) rfl rfl ?_
  refine wp_s (i := .iadd) (n := 1) (pc' := 1212) (st' := [.int 3, .retAddr 0, .int s2, .int s1, .ref 114, .int x]) rfl rfl ?_
  refine wp_s (i := .iaload) (n := 1) (pc' := 1213) (st' := [.int s3, .int s2, .int s1, .ref 114, .int x]) rfl rfl ?_
  refine wp_cv (idx := 161) (Dq := 12) (r' := mm_r188) (as0 := [.int s1, .int s2, .int s3]) (rest := [.int x]) (ls' := [some (.ref 114), some (.int s1), some (.int s2), some (.int s3)]) (pc' := 1216) rfl rfl rfl rfl hfs rfl rfl rfl ?_
  refine hq.mono ?_
  rintro _ h2 ⟨rfl, hok⟩
  show mm_Wp (some [s0, s1, s2, s3, s4]) 13 mm_r195 1216 [some (.retAddr 0), some (.ref 0), some (.ref 114), some (.int 0)] [.int x, .int x] h2 _
  refine wp_ic (t := 1310) (st := []) rfl rfl (fun _ => ?_) (fun hc => by simp [mm_cc] at hc)
  exact pk_end s0 s1 s2 s3 s4 h2 hok
set_option maxRecDepth 20000 in
theorem pl_35 (s0 s1 s2 s3 s4 : Int32) : mm_Wp (some [s0, s1, s2, s3, s4]) 13 mm_rL 1221 [some (.retAddr 0), some (.ref 0), some (.ref 114), some (.int 0)] [] hp_0 pk_Q := by
  refine wp_s (i := .aload_n 1) (n := 1) (pc' := 1222) (st' := [.ref 0]) rfl rfl ?_
  refine wp_s (i := .aload_n 0) (n := 1) (pc' := 1223) (st' := [.retAddr 0, .ref 0]) rfl rfl ?_
  refine wp_s (i := .iload_n 3) (n := 1) (pc' := 1224) (st' := [.int 0, .retAddr 0, .ref 0]) rfl rfl ?_
  refine wp_s (i := .iconst 1) (n := 1) (pc' := 1225) (st' := [.int 1, .int 0, .retAddr 0, .ref 0]) rfl rfl ?_
  refine wp_s (i := .iadd) (n := 1) (pc' := 1226) (st' := [.int 1, .retAddr 0, .ref 0]) rfl rfl ?_
  refine wp_s (i := .iaload) (n := 1) (pc' := 1227) (st' := [.int s1, .ref 0]) rfl rfl ?_
  refine wp_s (i := .aload_n 0) (n := 1) (pc' := 1228) (st' := [.retAddr 0, .int s1, .ref 0]) rfl rfl ?_
  refine wp_s (i := .iload_n 3) (n := 1) (pc' := 1229) (st' := [.int 0, .retAddr 0, .int s1, .ref 0]) rfl rfl ?_
  refine wp_s (i := .iconst 2) (n := 1) (pc' := 1230) (st' := [.int 2, .int 0, .retAddr 0, .int s1, .ref 0]) rfl rfl ?_
  refine wp_s (i := .iadd) (n := 1) (pc' := 1231) (st' := [.int 2, .retAddr 0, .int s1, .ref 0]) rfl rfl ?_
  refine wp_s (i := .iaload) (n := 1) (pc' := 1232) (st' := [.int s2, .int s1, .ref 0]) rfl rfl ?_
  refine wp_s (i := .aload_n 0) (n := 1) (pc' := 1233) (st' := [.retAddr 0, .int s2, .int s1, .ref 0]) rfl rfl ?_
  refine wp_s (i := .iload_n 3) (n := 1) (pc' := 1234) (st' := [.int 0, .retAddr 0, .int s2, .int s1, .ref 0]) rfl rfl ?_
  refine wp_s (i := .iconst 3) (n := 1) (pc' := 1235) (st' := [.int 3, .int 0, .retAddr 0, .int s2, .int s1, .ref 0]) rfl rfl ?_
  refine wp_s (i := .iadd) (n := 1) (pc' := 1236) (st' := [.int 3, .retAddr 0, .int s2, .int s1, .ref 0]) rfl rfl ?_
  refine wp_s (i := .iaload) (n := 1) (pc' := 1237) (st' := [.int s3, .int s2, .int s1, .ref 0]) rfl rfl ?_
  refine wp_s (i := .aload_n 0) (n := 1) (pc' := 1238) (st' := [.retAddr 0, .int s3, .int s2, .int s1, .ref 0]) rfl rfl ?_
  refine wp_s (i := .iload_n 3) (n := 1) (pc' := 1239) (st' := [.int 0, .retAddr 0, .int s3, .int s2, .int s1, .ref 0]) rfl rfl ?_
  refine wp_s (i := .iconst 4) (n := 1) (pc' := 1240) (st' := [.int 4, .int 0, .retAddr 0, .int s3, .int s2, .int s1, .ref 0]) rfl rfl ?_
  refine wp_s (i := .iadd) (n := 1) (pc' := 1241) (st' := [.int 4, .retAddr 0, .int s3, .int s2, .int s1, .ref 0]) rfl rfl ?_
  refine wp_s (i := .iaload) (n := 1) (pc' := 1242) (st' := [.int s4, .int s3, .int s2, .int s1, .ref 0]) rfl rfl ?_
  refine wp_c (i := .invokevirtual 162) (n := 3) (Dq := 12) (r' := mm_r100) (as := [.ref 0, .int s1, .int s2, .int s3, .int s4]) (rest := []) (ls' := [some (.ref 0), some (.int s1), some (.int s2), some (.int s3), some (.int s4), none, none, none, none]) rfl rfl rfl ?_
  refine (pk_35 (some [s0, s1, s2, s3, s4]) s1 s2 s3 s4).mono ?_
  rintro _ h1 ⟨x, rfl, ⟨fs, hfs⟩, hq⟩
  show mm_Wp (some [s0, s1, s2, s3, s4]) 13 mm_r195 1245 [some (.retAddr 0), some (.ref 0), some (.ref 114), some (.int 0)] [.int x] h1 _
  refine wp_s (i := .aload_n 2) (n := 1) (pc' := 1246) (st' := [.ref 114, .int x]) rfl rfl ?_
  refine wp_s (i := .aload_n 0) (n := 1) (pc' := 1247) (st' := [.retAddr 0, .ref 114, .int x]) rfl rfl ?_
  refine wp_s (i := .iload_n 3) (n := 1) (pc' := 1248) (st' := [.int 0, .retAddr 0, .ref 114, .int x]) rfl rfl ?_
  refine wp_s (i := .iconst 1) (n := 1) (pc' := 1249) (st' := [.int 1, .int 0, .retAddr 0, .ref 114, .int x]) rfl rfl ?_
  refine wp_s (i := .iadd) (n := 1) (pc' := 1250) (st' := [.int 1, .retAddr 0, .ref 114, .int x]) rfl rfl ?_
  refine wp_s (i := .iaload) (n := 1) (pc' := 1251) (st' := [.int s1, .ref 114, .int x]) rfl rfl ?_
  refine wp_s (i := .aload_n 0) (n := 1) (pc' := 1252) (st' := [.retAddr 0, .int s1, .ref 114, .int x]) rfl rfl ?_
  refine wp_s (i := .iload_n 3) (n := 1) (pc' := 1253) (st' := [.int 0, .retAddr 0, .int s1, .ref 114, .int x]) rfl rfl ?_
  refine wp_s (i := .iconst 2) (n := 1) (pc' := 1254) (st' := [.int 2, .int 0, .retAddr 0, .int s1, .ref 114, .int x]) rfl rfl ?_
  refine wp_s (i := .iadd) (n := 1) (pc' := 1255) (st' := [.int 2, .retAddr 0, .int s1, .ref 114, .int x]) rfl rfl ?_
  refine wp_s (i := .iaload) (n := 1) (pc' := 1256) (st' := [.int s2, .int s1, .ref 114, .int x]) rfl rfl ?_
  refine wp_s (i := .aload_n 0) (n := 1) (pc' := 1257) (st' := [.retAddr 0, .int s2, .int s1, .ref 114, .int x]) rfl rfl ?_
  refine wp_s (i := .iload_n 3) (n := 1) (pc' := 1258) (st' := [.int 0, .retAddr 0, .int s2, .int s1, .ref 114, .int x]) rfl rfl ?_
  refine wp_s (i := .iconst 3) (n := 1) (pc' := 1259) (st' := [.int 3, .int 0, .retAddr 0, .int s2, .int s1, .ref 114, .int x]) rfl rfl ?_
  refine wp_s (i := .iadd) (n := 1) (pc' := 1260) (st' := [.int 3, .retAddr 0, .int s2, .int s1, .ref 114, .int x]) rfl rfl ?_
  refine wp_s (i := .iaload) (n := 1) (pc' := 1261) (st' := [.int s3, .int s2, .int s1, .ref 114, .int x]) rfl rfl ?_
  refine wp_s (i := .aload_n 0) (n := 1) (pc' := 1262) (st' := [.retAddr 0, .int s3, .int s2, .int s1, .ref 114, .int x]) rfl rfl ?_
  refine wp_s (i := .iload_n 3) (n := 1) (pc' := 1263) (st' := [.int 0, .retAddr 0, .int s3, .int s2, .int s1, .ref 114, .int x]) rfl rfl ?_
  refine wp_s (i := .iconst 4) (n := 1) (pc' := 1264) (st' := [.int 4, .int 0, .retAddr 0, .int s3, .int s2, .int s1, .ref 114, .int x]) rfl rfl ?_
  refine wp_s (i := .iadd) (n := 1) (pc' := 1265) (st' := [.int 4, .retAddr 0, .int s3, .int s2, .int s1, .ref 114, .int x]) rfl rfl ?_
  refine wp_s (i := .iaload) (n := 1) (pc' := 1266) (st' := [.int s4, .int s3, .int s2, .int s1, .ref 114, .int x]) rfl rfl ?_
  refine wp_cv (idx := 165) (Dq := 12) (r' := mm_r189) (as0 := [.int s1, .int s2, .int s3, .int s4]) (rest := [.int x]) (ls' := [some (.ref 114), some (.int s1), some (.int s2), some (.int s3), some (.int s4), none, none, none]) (pc' := 1269) rfl rfl rfl rfl hfs rfl rfl rfl ?_
  refine hq.mono ?_
  rintro _ h2 ⟨rfl, hok⟩
  show mm_Wp (some [s0, s1, s2, s3, s4]) 13 mm_r195 1269 [some (.retAddr 0), some (.ref 0), some (.ref 114), some (.int 0)] [.int x, .int x] h2 _
  refine wp_ic (t := 1310) (st := []) rfl rfl (fun _ => ?_) (fun hc => by simp [mm_cc] at hc)
  exact pk_end s0 s1 s2 s3 s4 h2 hok
set_option maxRecDepth 20000 in
theorem pl_36 (s0 s1 s2 s3 s4 : Int32) : mm_Wp (some [s0, s1, s2, s3, s4]) 13 mm_rL 1274 [some (.retAddr 0), some (.ref 0), some (.ref 114), some (.int 0)] [] hp_0 pk_Q := by
  refine wp_s (i := .aload_n 1) (n := 1) (pc' := 1275) (st' := [.ref 0]) rfl rfl ?_
  refine wp_c (i := .invokevirtual 166) (n := 3) (Dq := 12) (r' := mm_r101) (as := [.ref 0]) (rest := []) (ls' := [some (.ref 0)]) rfl rfl rfl ?_
  refine (pk_36 (some [s0, s1, s2, s3, s4]) ).mono ?_
  rintro _ h1 ⟨x, rfl, ⟨fs, hfs⟩, hq⟩
  show mm_Wp (some [s0, s1, s2, s3, s4]) 13 mm_r195 1278 [some (.retAddr 0), some (.ref 0), some (.ref 114), some (.int 0)] [.int x] h1 _
  refine wp_s (i := .aload_n 2) (n := 1) (pc' := 1279) (st' := [.ref 114, .int x]) rfl rfl ?_
  refine wp_cv (idx := 169) (Dq := 12) (r' := mm_r190) (as0 := []) (rest := [.int x]) (ls' := [some (.ref 114)]) (pc' := 1282) rfl rfl rfl rfl hfs rfl rfl rfl ?_
  refine hq.mono ?_
  rintro _ h2 ⟨rfl, hok⟩
  show mm_Wp (some [s0, s1, s2, s3, s4]) 13 mm_r195 1282 [some (.retAddr 0), some (.ref 0), some (.ref 114), some (.int 0)] [.int x, .int x] h2 _
  refine wp_ic (t := 1310) (st := []) rfl rfl (fun _ => ?_) (fun hc => by simp [mm_cc] at hc)
  exact pk_end s0 s1 s2 s3 s4 h2 hok
set_option maxRecDepth 20000 in
theorem pl_37 (s0 s1 s2 s3 s4 : Int32) : mm_Wp (some [s0, s1, s2, s3, s4]) 13 mm_rL 1287 [some (.retAddr 0), some (.ref 0), some (.ref 114), some (.int 0)] [] hp_0 pk_Q := by
  refine wp_s (i := .aload_n 1) (n := 1) (pc' := 1288) (st' := [.ref 0]) rfl rfl ?_
  refine wp_s (i := .aload_n 0) (n := 1) (pc' := 1289) (st' := [.retAddr 0, .ref 0]) rfl rfl ?_
  refine wp_s (i := .iload_n 3) (n := 1) (pc' := 1290) (st' := [.int 0, .retAddr 0, .ref 0]) rfl rfl ?_
  refine wp_s (i := .iconst 1) (n := 1) (pc' := 1291) (st' := [.int 1, .int 0, .retAddr 0, .ref 0]) rfl rfl ?_
  refine wp_s (i := .iadd) (n := 1) (pc' := 1292) (st' := [.int 1, .retAddr 0, .ref 0]) rfl rfl ?_
  refine wp_s (i := .iaload) (n := 1) (pc' := 1293) (st' := [.int s1, .ref 0]) rfl rfl ?_
  refine wp_c (i := .invokevirtual 170) (n := 3) (Dq := 12) (r' := mm_r102) (as := [.ref 0, .int s1]) (rest := []) (ls' := [some (.ref 0), some (.int s1)]) rfl rfl rfl ?_
  refine (pk_37 (some [s0, s1, s2, s3, s4]) s1).mono ?_
  rintro _ h1 ⟨x, rfl, ⟨fs, hfs⟩, hq⟩
  show mm_Wp (some [s0, s1, s2, s3, s4]) 13 mm_r195 1296 [some (.retAddr 0), some (.ref 0), some (.ref 114), some (.int 0)] [.int x] h1 _
  refine wp_s (i := .aload_n 2) (n := 1) (pc' := 1297) (st' := [.ref 114, .int x]) rfl rfl ?_
  refine wp_s (i := .aload_n 0) (n := 1) (pc' := 1298) (st' := [.retAddr 0, .ref 114, .int x]) rfl rfl ?_
  refine wp_s (i := .iload_n 3) (n := 1) (pc' := 1299) (st' := [.int 0, .retAddr 0, .ref 114, .int x]) rfl rfl ?_
  refine wp_s (i := .iconst 1) (n := 1) (pc' := 1300) (st' := [.int 1, .int 0, .retAddr 0, .ref 114, .int x]) rfl rfl ?_
  refine wp_s (i := .iadd) (n := 1) (pc' := 1301) (st' := [.int 1, .retAddr 0, .ref 114, .int x]) rfl rfl ?_
  refine wp_s (i := .iaload) (n := 1) (pc' := 1302) (st' := [.int s1, .ref 114, .int x]) rfl rfl ?_
  refine wp_cv (idx := 173) (Dq := 12) (r' := mm_r191) (as0 := [.int s1]) (rest := [.int x]) (ls' := [some (.ref 114), some (.int s1), none, none]) (pc' := 1305) rfl rfl rfl rfl hfs rfl rfl rfl ?_
  refine hq.mono ?_
  rintro _ h2 ⟨rfl, hok⟩
  show mm_Wp (some [s0, s1, s2, s3, s4]) 13 mm_r195 1305 [some (.retAddr 0), some (.ref 0), some (.ref 114), some (.int 0)] [.int x, .int x] h2 _
  refine wp_ic (t := 1310) (st := []) rfl rfl (fun _ => ?_) (fun hc => by simp [mm_cc] at hc)
  exact pk_end s0 s1 s2 s3 s4 h2 hok
set_option maxRecDepth 20000 in
theorem pl_dfl (s0 s1 s2 s3 s4 : Int32) : mm_Wp (some [s0, s1, s2, s3, s4]) 13 mm_rL 1310 [some (.retAddr 0), some (.ref 0), some (.ref 114), some (.int 0)] [] hp_0 pk_Q := by
  exact pk_end s0 s1 s2 s3 s4 hp_0 pk_ok0
theorem pl_sw (x : Int32) : ∃ j : Nat, j < 64 ∧ (x &&& 63) = Int32.ofNat j := pk_andE x 6 (by decide +kernel)
set_option maxRecDepth 20000 in
theorem pl_all (s0 s1 s2 s3 s4 : Int32) : mm_Wp (some [s0, s1, s2, s3, s4]) 13 mm_rL 32 [some (.retAddr 0), some (.ref 0), some (.ref 114), some (.int 0)] [.int (s0 &&& 63)] hp_0 pk_Q := by
  obtain ⟨j, hj, e⟩ := pl_sw s0
  rw [e]
  match j, hj with
  | 0, _ => exact wp_s (i := .tableswitch 1278 0 37 #[168, 221, 244, 257, 270, 293, 326, 359, 392, 441, 474, 497, 520, 533, 556, 579, 612, 645, 678, 701, 734, 757, 790, 823, 846, 879, 902, 925, 948, 971, 1004, 1057, 1080, 1103, 1146, 1189, 1242, 1255]) (n := 168) (pc' := 200) (ls' := [some (.retAddr 0), some (.ref 0), some (.ref 114), some (.int 0)]) (st' := []) (h' := hp_0) rfl rfl (pl_0 s0 s1 s2 s3 s4)
  | 1, _ => exact wp_s (i := .tableswitch 1278 0 37 #[168, 221, 244, 257, 270, 293, 326, 359, 392, 441, 474, 497, 520, 533, 556, 579, 612, 645, 678, 701, 734, 757, 790, 823, 846, 879, 902, 925, 948, 971, 1004, 1057, 1080, 1103, 1146, 1189, 1242, 1255]) (n := 168) (pc' := 253) (ls' := [some (.retAddr 0), some (.ref 0), some (.ref 114), some (.int 0)]) (st' := []) (h' := hp_0) rfl rfl (pl_1 s0 s1 s2 s3 s4)
  | 2, _ => exact wp_s (i := .tableswitch 1278 0 37 #[168, 221, 244, 257, 270, 293, 326, 359, 392, 441, 474, 497, 520, 533, 556, 579, 612, 645, 678, 701, 734, 757, 790, 823, 846, 879, 902, 925, 948, 971, 1004, 1057, 1080, 1103, 1146, 1189, 1242, 1255]) (n := 168) (pc' := 276) (ls' := [some (.retAddr 0), some (.ref 0), some (.ref 114), some (.int 0)]) (st' := []) (h' := hp_0) rfl rfl (pl_2 s0 s1 s2 s3 s4)
  | 3, _ => exact wp_s (i := .tableswitch 1278 0 37 #[168, 221, 244, 257, 270, 293, 326, 359, 392, 441, 474, 497, 520, 533, 556, 579, 612, 645, 678, 701, 734, 757, 790, 823, 846, 879, 902, 925, 948, 971, 1004, 1057, 1080, 1103, 1146, 1189, 1242, 1255]) (n := 168) (pc' := 289) (ls' := [some (.retAddr 0), some (.ref 0), some (.ref 114), some (.int 0)]) (st' := []) (h' := hp_0) rfl rfl (pl_3 s0 s1 s2 s3 s4)
  | 4, _ => exact wp_s (i := .tableswitch 1278 0 37 #[168, 221, 244, 257, 270, 293, 326, 359, 392, 441, 474, 497, 520, 533, 556, 579, 612, 645, 678, 701, 734, 757, 790, 823, 846, 879, 902, 925, 948, 971, 1004, 1057, 1080, 1103, 1146, 1189, 1242, 1255]) (n := 168) (pc' := 302) (ls' := [some (.retAddr 0), some (.ref 0), some (.ref 114), some (.int 0)]) (st' := []) (h' := hp_0) rfl rfl (pl_4 s0 s1 s2 s3 s4)
  | 5, _ => exact wp_s (i := .tableswitch 1278 0 37 #[168, 221, 244, 257, 270, 293, 326, 359, 392, 441, 474, 497, 520, 533, 556, 579, 612, 645, 678, 701, 734, 757, 790, 823, 846, 879, 902, 925, 948, 971, 1004, 1057, 1080, 1103, 1146, 1189, 1242, 1255]) (n := 168) (pc' := 325) (ls' := [some (.retAddr 0), some (.ref 0), some (.ref 114), some (.int 0)]) (st' := []) (h' := hp_0) rfl rfl (pl_5 s0 s1 s2 s3 s4)
  | 6, _ => exact wp_s (i := .tableswitch 1278 0 37 #[168, 221, 244, 257, 270, 293, 326, 359, 392, 441, 474, 497, 520, 533, 556, 579, 612, 645, 678, 701, 734, 757, 790, 823, 846, 879, 902, 925, 948, 971, 1004, 1057, 1080, 1103, 1146, 1189, 1242, 1255]) (n := 168) (pc' := 358) (ls' := [some (.retAddr 0), some (.ref 0), some (.ref 114), some (.int 0)]) (st' := []) (h' := hp_0) rfl rfl (pl_6 s0 s1 s2 s3 s4)
  | 7, _ => exact wp_s (i := .tableswitch 1278 0 37 #[168, 221, 244, 257, 270, 293, 326, 359, 392, 441, 474, 497, 520, 533, 556, 579, 612, 645, 678, 701, 734, 757, 790, 823, 846, 879, 902, 925, 948, 971, 1004, 1057, 1080, 1103, 1146, 1189, 1242, 1255]) (n := 168) (pc' := 391) (ls' := [some (.retAddr 0), some (.ref 0), some (.ref 114), some (.int 0)]) (st' := []) (h' := hp_0) rfl rfl (pl_7 s0 s1 s2 s3 s4)
  | 8, _ => exact wp_s (i := .tableswitch 1278 0 37 #[168, 221, 244, 257, 270, 293, 326, 359, 392, 441, 474, 497, 520, 533, 556, 579, 612, 645, 678, 701, 734, 757, 790, 823, 846, 879, 902, 925, 948, 971, 1004, 1057, 1080, 1103, 1146, 1189, 1242, 1255]) (n := 168) (pc' := 424) (ls' := [some (.retAddr 0), some (.ref 0), some (.ref 114), some (.int 0)]) (st' := []) (h' := hp_0) rfl rfl (pl_8 s0 s1 s2 s3 s4)
  | 9, _ => exact wp_s (i := .tableswitch 1278 0 37 #[168, 221, 244, 257, 270, 293, 326, 359, 392, 441, 474, 497, 520, 533, 556, 579, 612, 645, 678, 701, 734, 757, 790, 823, 846, 879, 902, 925, 948, 971, 1004, 1057, 1080, 1103, 1146, 1189, 1242, 1255]) (n := 168) (pc' := 473) (ls' := [some (.retAddr 0), some (.ref 0), some (.ref 114), some (.int 0)]) (st' := []) (h' := hp_0) rfl rfl (pl_9 s0 s1 s2 s3 s4)
  | 10, _ => exact wp_s (i := .tableswitch 1278 0 37 #[168, 221, 244, 257, 270, 293, 326, 359, 392, 441, 474, 497, 520, 533, 556, 579, 612, 645, 678, 701, 734, 757, 790, 823, 846, 879, 902, 925, 948, 971, 1004, 1057, 1080, 1103, 1146, 1189, 1242, 1255]) (n := 168) (pc' := 506) (ls' := [some (.retAddr 0), some (.ref 0), some (.ref 114), some (.int 0)]) (st' := []) (h' := hp_0) rfl rfl (pl_10 s0 s1 s2 s3 s4)
  | 11, _ => exact wp_s (i := .tableswitch 1278 0 37 #[168, 221, 244, 257, 270, 293, 326, 359, 392, 441, 474, 497, 520, 533, 556, 579, 612, 645, 678, 701, 734, 757, 790, 823, 846, 879, 902, 925, 948, 971, 1004, 1057, 1080, 1103, 1146, 1189, 1242, 1255]) (n := 168) (pc' := 529) (ls' := [some (.retAddr 0), some (.ref 0), some (.ref 114), some (.int 0)]) (st' := []) (h' := hp_0) rfl rfl (pl_11 s0 s1 s2 s3 s4)
  | 12, _ => exact wp_s (i := .tableswitch 1278 0 37 #[168, 221, 244, 257, 270, 293, 326, 359, 392, 441, 474, 497, 520, 533, 556, 579, 612, 645, 678, 701, 734, 757, 790, 823, 846, 879, 902, 925, 948, 971, 1004, 1057, 1080, 1103, 1146, 1189, 1242, 1255]) (n := 168) (pc' := 552) (ls' := [some (.retAddr 0), some (.ref 0), some (.ref 114), some (.int 0)]) (st' := []) (h' := hp_0) rfl rfl (pl_12 s0 s1 s2 s3 s4)
  | 13, _ => exact wp_s (i := .tableswitch 1278 0 37 #[168, 221, 244, 257, 270, 293, 326, 359, 392, 441, 474, 497, 520, 533, 556, 579, 612, 645, 678, 701, 734, 757, 790, 823, 846, 879, 902, 925, 948, 971, 1004, 1057, 1080, 1103, 1146, 1189, 1242, 1255]) (n := 168) (pc' := 565) (ls' := [some (.retAddr 0), some (.ref 0), some (.ref 114), some (.int 0)]) (st' := []) (h' := hp_0) rfl rfl (pl_13 s0 s1 s2 s3 s4)
  | 14, _ => exact wp_s (i := .tableswitch 1278 0 37 #[168, 221, 244, 257, 270, 293, 326, 359, 392, 441, 474, 497, 520, 533, 556, 579, 612, 645, 678, 701, 734, 757, 790, 823, 846, 879, 902, 925, 948, 971, 1004, 1057, 1080, 1103, 1146, 1189, 1242, 1255]) (n := 168) (pc' := 588) (ls' := [some (.retAddr 0), some (.ref 0), some (.ref 114), some (.int 0)]) (st' := []) (h' := hp_0) rfl rfl (pl_14 s0 s1 s2 s3 s4)
  | 15, _ => exact wp_s (i := .tableswitch 1278 0 37 #[168, 221, 244, 257, 270, 293, 326, 359, 392, 441, 474, 497, 520, 533, 556, 579, 612, 645, 678, 701, 734, 757, 790, 823, 846, 879, 902, 925, 948, 971, 1004, 1057, 1080, 1103, 1146, 1189, 1242, 1255]) (n := 168) (pc' := 611) (ls' := [some (.retAddr 0), some (.ref 0), some (.ref 114), some (.int 0)]) (st' := []) (h' := hp_0) rfl rfl (pl_15 s0 s1 s2 s3 s4)
  | 16, _ => exact wp_s (i := .tableswitch 1278 0 37 #[168, 221, 244, 257, 270, 293, 326, 359, 392, 441, 474, 497, 520, 533, 556, 579, 612, 645, 678, 701, 734, 757, 790, 823, 846, 879, 902, 925, 948, 971, 1004, 1057, 1080, 1103, 1146, 1189, 1242, 1255]) (n := 168) (pc' := 644) (ls' := [some (.retAddr 0), some (.ref 0), some (.ref 114), some (.int 0)]) (st' := []) (h' := hp_0) rfl rfl (pl_16 s0 s1 s2 s3 s4)
  | 17, _ => exact wp_s (i := .tableswitch 1278 0 37 #[168, 221, 244, 257, 270, 293, 326, 359, 392, 441, 474, 497, 520, 533, 556, 579, 612, 645, 678, 701, 734, 757, 790, 823, 846, 879, 902, 925, 948, 971, 1004, 1057, 1080, 1103, 1146, 1189, 1242, 1255]) (n := 168) (pc' := 677) (ls' := [some (.retAddr 0), some (.ref 0), some (.ref 114), some (.int 0)]) (st' := []) (h' := hp_0) rfl rfl (pl_17 s0 s1 s2 s3 s4)
  | 18, _ => exact wp_s (i := .tableswitch 1278 0 37 #[168, 221, 244, 257, 270, 293, 326, 359, 392, 441, 474, 497, 520, 533, 556, 579, 612, 645, 678, 701, 734, 757, 790, 823, 846, 879, 902, 925, 948, 971, 1004, 1057, 1080, 1103, 1146, 1189, 1242, 1255]) (n := 168) (pc' := 710) (ls' := [some (.retAddr 0), some (.ref 0), some (.ref 114), some (.int 0)]) (st' := []) (h' := hp_0) rfl rfl (pl_18 s0 s1 s2 s3 s4)
  | 19, _ => exact wp_s (i := .tableswitch 1278 0 37 #[168, 221, 244, 257, 270, 293, 326, 359, 392, 441, 474, 497, 520, 533, 556, 579, 612, 645, 678, 701, 734, 757, 790, 823, 846, 879, 902, 925, 948, 971, 1004, 1057, 1080, 1103, 1146, 1189, 1242, 1255]) (n := 168) (pc' := 733) (ls' := [some (.retAddr 0), some (.ref 0), some (.ref 114), some (.int 0)]) (st' := []) (h' := hp_0) rfl rfl (pl_19 s0 s1 s2 s3 s4)
  | 20, _ => exact wp_s (i := .tableswitch 1278 0 37 #[168, 221, 244, 257, 270, 293, 326, 359, 392, 441, 474, 497, 520, 533, 556, 579, 612, 645, 678, 701, 734, 757, 790, 823, 846, 879, 902, 925, 948, 971, 1004, 1057, 1080, 1103, 1146, 1189, 1242, 1255]) (n := 168) (pc' := 766) (ls' := [some (.retAddr 0), some (.ref 0), some (.ref 114), some (.int 0)]) (st' := []) (h' := hp_0) rfl rfl (pl_20 s0 s1 s2 s3 s4)
  | 21, _ => exact wp_s (i := .tableswitch 1278 0 37 #[168, 221, 244, 257, 270, 293, 326, 359, 392, 441, 474, 497, 520, 533, 556, 579, 612, 645, 678, 701, 734, 757, 790, 823, 846, 879, 902, 925, 948, 971, 1004, 1057, 1080, 1103, 1146, 1189, 1242, 1255]) (n := 168) (pc' := 789) (ls' := [some (.retAddr 0), some (.ref 0), some (.ref 114), some (.int 0)]) (st' := []) (h' := hp_0) rfl rfl (pl_21 s0 s1 s2 s3 s4)
  | 22, _ => exact wp_s (i := .tableswitch 1278 0 37 #[168, 221, 244, 257, 270, 293, 326, 359, 392, 441, 474, 497, 520, 533, 556, 579, 612, 645, 678, 701, 734, 757, 790, 823, 846, 879, 902, 925, 948, 971, 1004, 1057, 1080, 1103, 1146, 1189, 1242, 1255]) (n := 168) (pc' := 822) (ls' := [some (.retAddr 0), some (.ref 0), some (.ref 114), some (.int 0)]) (st' := []) (h' := hp_0) rfl rfl (pl_22 s0 s1 s2 s3 s4)
  | 23, _ => exact wp_s (i := .tableswitch 1278 0 37 #[168, 221, 244, 257, 270, 293, 326, 359, 392, 441, 474, 497, 520, 533, 556, 579, 612, 645, 678, 701, 734, 757, 790, 823, 846, 879, 902, 925, 948, 971, 1004, 1057, 1080, 1103, 1146, 1189, 1242, 1255]) (n := 168) (pc' := 855) (ls' := [some (.retAddr 0), some (.ref 0), some (.ref 114), some (.int 0)]) (st' := []) (h' := hp_0) rfl rfl (pl_23 s0 s1 s2 s3 s4)
  | 24, _ => exact wp_s (i := .tableswitch 1278 0 37 #[168, 221, 244, 257, 270, 293, 326, 359, 392, 441, 474, 497, 520, 533, 556, 579, 612, 645, 678, 701, 734, 757, 790, 823, 846, 879, 902, 925, 948, 971, 1004, 1057, 1080, 1103, 1146, 1189, 1242, 1255]) (n := 168) (pc' := 878) (ls' := [some (.retAddr 0), some (.ref 0), some (.ref 114), some (.int 0)]) (st' := []) (h' := hp_0) rfl rfl (pl_24 s0 s1 s2 s3 s4)
  | 25, _ => exact wp_s (i := .tableswitch 1278 0 37 #[168, 221, 244, 257, 270, 293, 326, 359, 392, 441, 474, 497, 520, 533, 556, 579, 612, 645, 678, 701, 734, 757, 790, 823, 846, 879, 902, 925, 948, 971, 1004, 1057, 1080, 1103, 1146, 1189, 1242, 1255]) (n := 168) (pc' := 911) (ls' := [some (.retAddr 0), some (.ref 0), some (.ref 114), some (.int 0)]) (st' := []) (h' := hp_0) rfl rfl (pl_25 s0 s1 s2 s3 s4)
  | 26, _ => exact wp_s (i := .tableswitch 1278 0 37 #[168, 221, 244, 257, 270, 293, 326, 359, 392, 441, 474, 497, 520, 533, 556, 579, 612, 645, 678, 701, 734, 757, 790, 823, 846, 879, 902, 925, 948, 971, 1004, 1057, 1080, 1103, 1146, 1189, 1242, 1255]) (n := 168) (pc' := 934) (ls' := [some (.retAddr 0), some (.ref 0), some (.ref 114), some (.int 0)]) (st' := []) (h' := hp_0) rfl rfl (pl_26 s0 s1 s2 s3 s4)
  | 27, _ => exact wp_s (i := .tableswitch 1278 0 37 #[168, 221, 244, 257, 270, 293, 326, 359, 392, 441, 474, 497, 520, 533, 556, 579, 612, 645, 678, 701, 734, 757, 790, 823, 846, 879, 902, 925, 948, 971, 1004, 1057, 1080, 1103, 1146, 1189, 1242, 1255]) (n := 168) (pc' := 957) (ls' := [some (.retAddr 0), some (.ref 0), some (.ref 114), some (.int 0)]) (st' := []) (h' := hp_0) rfl rfl (pl_27 s0 s1 s2 s3 s4)
  | 28, _ => exact wp_s (i := .tableswitch 1278 0 37 #[168, 221, 244, 257, 270, 293, 326, 359, 392, 441, 474, 497, 520, 533, 556, 579, 612, 645, 678, 701, 734, 757, 790, 823, 846, 879, 902, 925, 948, 971, 1004, 1057, 1080, 1103, 1146, 1189, 1242, 1255]) (n := 168) (pc' := 980) (ls' := [some (.retAddr 0), some (.ref 0), some (.ref 114), some (.int 0)]) (st' := []) (h' := hp_0) rfl rfl (pl_28 s0 s1 s2 s3 s4)
  | 29, _ => exact wp_s (i := .tableswitch 1278 0 37 #[168, 221, 244, 257, 270, 293, 326, 359, 392, 441, 474, 497, 520, 533, 556, 579, 612, 645, 678, 701, 734, 757, 790, 823, 846, 879, 902, 925, 948, 971, 1004, 1057, 1080, 1103, 1146, 1189, 1242, 1255]) (n := 168) (pc' := 1003) (ls' := [some (.retAddr 0), some (.ref 0), some (.ref 114), some (.int 0)]) (st' := []) (h' := hp_0) rfl rfl (pl_29 s0 s1 s2 s3 s4)
  | 30, _ => exact wp_s (i := .tableswitch 1278 0 37 #[168, 221, 244, 257, 270, 293, 326, 359, 392, 441, 474, 497, 520, 533, 556, 579, 612, 645, 678, 701, 734, 757, 790, 823, 846, 879, 902, 925, 948, 971, 1004, 1057, 1080, 1103, 1146, 1189, 1242, 1255]) (n := 168) (pc' := 1036) (ls' := [some (.retAddr 0), some (.ref 0), some (.ref 114), some (.int 0)]) (st' := []) (h' := hp_0) rfl rfl (pl_30 s0 s1 s2 s3 s4)
  | 31, _ => exact wp_s (i := .tableswitch 1278 0 37 #[168, 221, 244, 257, 270, 293, 326, 359, 392, 441, 474, 497, 520, 533, 556, 579, 612, 645, 678, 701, 734, 757, 790, 823, 846, 879, 902, 925, 948, 971, 1004, 1057, 1080, 1103, 1146, 1189, 1242, 1255]) (n := 168) (pc' := 1089) (ls' := [some (.retAddr 0), some (.ref 0), some (.ref 114), some (.int 0)]) (st' := []) (h' := hp_0) rfl rfl (pl_31 s0 s1 s2 s3 s4)
  | 32, _ => exact wp_s (i := .tableswitch 1278 0 37 #[168, 221, 244, 257, 270, 293, 326, 359, 392, 441, 474, 497, 520, 533, 556, 579, 612, 645, 678, 701, 734, 757, 790, 823, 846, 879, 902, 925, 948, 971, 1004, 1057, 1080, 1103, 1146, 1189, 1242, 1255]) (n := 168) (pc' := 1112) (ls' := [some (.retAddr 0), some (.ref 0), some (.ref 114), some (.int 0)]) (st' := []) (h' := hp_0) rfl rfl (pl_32 s0 s1 s2 s3 s4)
  | 33, _ => exact wp_s (i := .tableswitch 1278 0 37 #[168, 221, 244, 257, 270, 293, 326, 359, 392, 441, 474, 497, 520, 533, 556, 579, 612, 645, 678, 701, 734, 757, 790, 823, 846, 879, 902, 925, 948, 971, 1004, 1057, 1080, 1103, 1146, 1189, 1242, 1255]) (n := 168) (pc' := 1135) (ls' := [some (.retAddr 0), some (.ref 0), some (.ref 114), some (.int 0)]) (st' := []) (h' := hp_0) rfl rfl (pl_33 s0 s1 s2 s3 s4)
  | 34, _ => exact wp_s (i := .tableswitch 1278 0 37 #[168, 221, 244, 257, 270, 293, 326, 359, 392, 441, 474, 497, 520, 533, 556, 579, 612, 645, 678, 701, 734, 757, 790, 823, 846, 879, 902, 925, 948, 971, 1004, 1057, 1080, 1103, 1146, 1189, 1242, 1255]) (n := 168) (pc' := 1178) (ls' := [some (.retAddr 0), some (.ref 0), some (.ref 114), some (.int 0)]) (st' := []) (h' := hp_0) rfl rfl (pl_34 s0 s1 s2 s3 s4)
  | 35, _ => exact wp_s (i := .tableswitch 1278 0 37 #[168, 221, 244, 257, 270, 293, 326, 359, 392, 441, 474, 497, 520, 533, 556, 579, 612, 645, 678, 701, 734, 757, 790, 823, 846, 879, 902, 925, 948, 971, 1004, 1057, 1080, 1103, 1146, 1189, 1242, 1255]) (n := 168) (pc' := 1221) (ls' := [some (.retAddr 0), some (.ref 0), some (.ref 114), some (.int 0)]) (st' := []) (h' := hp_0) rfl rfl (pl_35 s0 s1 s2 s3 s4)
  | 36, _ => exact wp_s (i := .tableswitch 1278 0 37 #[168, 221, 244, 257, 270, 293, 326, 359, 392, 441, 474, 497, 520, 533, 556, 579, 612, 645, 678, 701, 734, 757, 790, 823, 846, 879, 902, 925, 948, 971, 1004, 1057, 1080, 1103, 1146, 1189, 1242, 1255]) (n := 168) (pc' := 1274) (ls' := [some (.retAddr 0), some (.ref 0), some (.ref 114), some (.int 0)]) (st' := []) (h' := hp_0) rfl rfl (pl_36 s0 s1 s2 s3 s4)
  | 37, _ => exact wp_s (i := .tableswitch 1278 0 37 #[168, 221, 244, 257, 270, 293, 326, 359, 392, 441, 474, 497, 520, 533, 556, 579, 612, 645, 678, 701, 734, 757, 790, 823, 846, 879, 902, 925, 948, 971, 1004, 1057, 1080, 1103, 1146, 1189, 1242, 1255]) (n := 168) (pc' := 1287) (ls' := [some (.retAddr 0), some (.ref 0), some (.ref 114), some (.int 0)]) (st' := []) (h' := hp_0) rfl rfl (pl_37 s0 s1 s2 s3 s4)
  | 38, _ => exact wp_s (i := .tableswitch 1278 0 37 #[168, 221, 244, 257, 270, 293, 326, 359, 392, 441, 474, 497, 520, 533, 556, 579, 612, 645, 678, 701, 734, 757, 790, 823, 846, 879, 902, 925, 948, 971, 1004, 1057, 1080, 1103, 1146, 1189, 1242, 1255]) (n := 168) (pc' := 1310) (ls' := [some (.retAddr 0), some (.ref 0), some (.ref 114), some (.int 0)]) (st' := []) (h' := hp_0) rfl rfl (pl_dfl s0 s1 s2 s3 s4)
  | 39, _ => exact wp_s (i := .tableswitch 1278 0 37 #[168, 221, 244, 257, 270, 293, 326, 359, 392, 441, 474, 497, 520, 533, 556, 579, 612, 645, 678, 701, 734, 757, 790, 823, 846, 879, 902, 925, 948, 971, 1004, 1057, 1080, 1103, 1146, 1189, 1242, 1255]) (n := 168) (pc' := 1310) (ls' := [some (.retAddr 0), some (.ref 0), some (.ref 114), some (.int 0)]) (st' := []) (h' := hp_0) rfl rfl (pl_dfl s0 s1 s2 s3 s4)
  | 40, _ => exact wp_s (i := .tableswitch 1278 0 37 #[168, 221, 244, 257, 270, 293, 326, 359, 392, 441, 474, 497, 520, 533, 556, 579, 612, 645, 678, 701, 734, 757, 790, 823, 846, 879, 902, 925, 948, 971, 1004, 1057, 1080, 1103, 1146, 1189, 1242, 1255]) (n := 168) (pc' := 1310) (ls' := [some (.retAddr 0), some (.ref 0), some (.ref 114), some (.int 0)]) (st' := []) (h' := hp_0) rfl rfl (pl_dfl s0 s1 s2 s3 s4)
  | 41, _ => exact wp_s (i := .tableswitch 1278 0 37 #[168, 221, 244, 257, 270, 293, 326, 359, 392, 441, 474, 497, 520, 533, 556, 579, 612, 645, 678, 701, 734, 757, 790, 823, 846, 879, 902, 925, 948, 971, 1004, 1057, 1080, 1103, 1146, 1189, 1242, 1255]) (n := 168) (pc' := 1310) (ls' := [some (.retAddr 0), some (.ref 0), some (.ref 114), some (.int 0)]) (st' := []) (h' := hp_0) rfl rfl (pl_dfl s0 s1 s2 s3 s4)
  | 42, _ => exact wp_s (i := .tableswitch 1278 0 37 #[168, 221, 244, 257, 270, 293, 326, 359, 392, 441, 474, 497, 520, 533, 556, 579, 612, 645, 678, 701, 734, 757, 790, 823, 846, 879, 902, 925, 948, 971, 1004, 1057, 1080, 1103, 1146, 1189, 1242, 1255]) (n := 168) (pc' := 1310) (ls' := [some (.retAddr 0), some (.ref 0), some (.ref 114), some (.int 0)]) (st' := []) (h' := hp_0) rfl rfl (pl_dfl s0 s1 s2 s3 s4)
  | 43, _ => exact wp_s (i := .tableswitch 1278 0 37 #[168, 221, 244, 257, 270, 293, 326, 359, 392, 441, 474, 497, 520, 533, 556, 579, 612, 645, 678, 701, 734, 757, 790, 823, 846, 879, 902, 925, 948, 971, 1004, 1057, 1080, 1103, 1146, 1189, 1242, 1255]) (n := 168) (pc' := 1310) (ls' := [some (.retAddr 0), some (.ref 0), some (.ref 114), some (.int 0)]) (st' := []) (h' := hp_0) rfl rfl (pl_dfl s0 s1 s2 s3 s4)
  | 44, _ => exact wp_s (i := .tableswitch 1278 0 37 #[168, 221, 244, 257, 270, 293, 326, 359, 392, 441, 474, 497, 520, 533, 556, 579, 612, 645, 678, 701, 734, 757, 790, 823, 846, 879, 902, 925, 948, 971, 1004, 1057, 1080, 1103, 1146, 1189, 1242, 1255]) (n := 168) (pc' := 1310) (ls' := [some (.retAddr 0), some (.ref 0), some (.ref 114), some (.int 0)]) (st' := []) (h' := hp_0) rfl rfl (pl_dfl s0 s1 s2 s3 s4)
  | 45, _ => exact wp_s (i := .tableswitch 1278 0 37 #[168, 221, 244, 257, 270, 293, 326, 359, 392, 441, 474, 497, 520, 533, 556, 579, 612, 645, 678, 701, 734, 757, 790, 823, 846, 879, 902, 925, 948, 971, 1004, 1057, 1080, 1103, 1146, 1189, 1242, 1255]) (n := 168) (pc' := 1310) (ls' := [some (.retAddr 0), some (.ref 0), some (.ref 114), some (.int 0)]) (st' := []) (h' := hp_0) rfl rfl (pl_dfl s0 s1 s2 s3 s4)
  | 46, _ => exact wp_s (i := .tableswitch 1278 0 37 #[168, 221, 244, 257, 270, 293, 326, 359, 392, 441, 474, 497, 520, 533, 556, 579, 612, 645, 678, 701, 734, 757, 790, 823, 846, 879, 902, 925, 948, 971, 1004, 1057, 1080, 1103, 1146, 1189, 1242, 1255]) (n := 168) (pc' := 1310) (ls' := [some (.retAddr 0), some (.ref 0), some (.ref 114), some (.int 0)]) (st' := []) (h' := hp_0) rfl rfl (pl_dfl s0 s1 s2 s3 s4)
  | 47, _ => exact wp_s (i := .tableswitch 1278 0 37 #[168, 221, 244, 257, 270, 293, 326, 359, 392, 441, 474, 497, 520, 533, 556, 579, 612, 645, 678, 701, 734, 757, 790, 823, 846, 879, 902, 925, 948, 971, 1004, 1057, 1080, 1103, 1146, 1189, 1242, 1255]) (n := 168) (pc' := 1310) (ls' := [some (.retAddr 0), some (.ref 0), some (.ref 114), some (.int 0)]) (st' := []) (h' := hp_0) rfl rfl (pl_dfl s0 s1 s2 s3 s4)
  | 48, _ => exact wp_s (i := .tableswitch 1278 0 37 #[168, 221, 244, 257, 270, 293, 326, 359, 392, 441, 474, 497, 520, 533, 556, 579, 612, 645, 678, 701, 734, 757, 790, 823, 846, 879, 902, 925, 948, 971, 1004, 1057, 1080, 1103, 1146, 1189, 1242, 1255]) (n := 168) (pc' := 1310) (ls' := [some (.retAddr 0), some (.ref 0), some (.ref 114), some (.int 0)]) (st' := []) (h' := hp_0) rfl rfl (pl_dfl s0 s1 s2 s3 s4)
  | 49, _ => exact wp_s (i := .tableswitch 1278 0 37 #[168, 221, 244, 257, 270, 293, 326, 359, 392, 441, 474, 497, 520, 533, 556, 579, 612, 645, 678, 701, 734, 757, 790, 823, 846, 879, 902, 925, 948, 971, 1004, 1057, 1080, 1103, 1146, 1189, 1242, 1255]) (n := 168) (pc' := 1310) (ls' := [some (.retAddr 0), some (.ref 0), some (.ref 114), some (.int 0)]) (st' := []) (h' := hp_0) rfl rfl (pl_dfl s0 s1 s2 s3 s4)
  | 50, _ => exact wp_s (i := .tableswitch 1278 0 37 #[168, 221, 244, 257, 270, 293, 326, 359, 392, 441, 474, 497, 520, 533, 556, 579, 612, 645, 678, 701, 734, 757, 790, 823, 846, 879, 902, 925, 948, 971, 1004, 1057, 1080, 1103, 1146, 1189, 1242, 1255]) (n := 168) (pc' := 1310) (ls' := [some (.retAddr 0), some (.ref 0), some (.ref 114), some (.int 0)]) (st' := []) (h' := hp_0) rfl rfl (pl_dfl s0 s1 s2 s3 s4)
  | 51, _ => exact wp_s (i := .tableswitch 1278 0 37 #[168, 221, 244, 257, 270, 293, 326, 359, 392, 441, 474, 497, 520, 533, 556, 579, 612, 645, 678, 701, 734, 757, 790, 823, 846, 879, 902, 925, 948, 971, 1004, 1057, 1080, 1103, 1146, 1189, 1242, 1255]) (n := 168) (pc' := 1310) (ls' := [some (.retAddr 0), some (.ref 0), some (.ref 114), some (.int 0)]) (st' := []) (h' := hp_0) rfl rfl (pl_dfl s0 s1 s2 s3 s4)
  | 52, _ => exact wp_s (i := .tableswitch 1278 0 37 #[168, 221, 244, 257, 270, 293, 326, 359, 392, 441, 474, 497, 520, 533, 556, 579, 612, 645, 678, 701, 734, 757, 790, 823, 846, 879, 902, 925, 948, 971, 1004, 1057, 1080, 1103, 1146, 1189, 1242, 1255]) (n := 168) (pc' := 1310) (ls' := [some (.retAddr 0), some (.ref 0), some (.ref 114), some (.int 0)]) (st' := []) (h' := hp_0) rfl rfl (pl_dfl s0 s1 s2 s3 s4)
  | 53, _ => exact wp_s (i := .tableswitch 1278 0 37 #[168, 221, 244, 257, 270, 293, 326, 359, 392, 441, 474, 497, 520, 533, 556, 579, 612, 645, 678, 701, 734, 757, 790, 823, 846, 879, 902, 925, 948, 971, 1004, 1057, 1080, 1103, 1146, 1189, 1242, 1255]) (n := 168) (pc' := 1310) (ls' := [some (.retAddr 0), some (.ref 0), some (.ref 114), some (.int 0)]) (st' := []) (h' := hp_0) rfl rfl (pl_dfl s0 s1 s2 s3 s4)
  | 54, _ => exact wp_s (i := .tableswitch 1278 0 37 #[168, 221, 244, 257, 270, 293, 326, 359, 392, 441, 474, 497, 520, 533, 556, 579, 612, 645, 678, 701, 734, 757, 790, 823, 846, 879, 902, 925, 948, 971, 1004, 1057, 1080, 1103, 1146, 1189, 1242, 1255]) (n := 168) (pc' := 1310) (ls' := [some (.retAddr 0), some (.ref 0), some (.ref 114), some (.int 0)]) (st' := []) (h' := hp_0) rfl rfl (pl_dfl s0 s1 s2 s3 s4)
  | 55, _ => exact wp_s (i := .tableswitch 1278 0 37 #[168, 221, 244, 257, 270, 293, 326, 359, 392, 441, 474, 497, 520, 533, 556, 579, 612, 645, 678, 701, 734, 757, 790, 823, 846, 879, 902, 925, 948, 971, 1004, 1057, 1080, 1103, 1146, 1189, 1242, 1255]) (n := 168) (pc' := 1310) (ls' := [some (.retAddr 0), some (.ref 0), some (.ref 114), some (.int 0)]) (st' := []) (h' := hp_0) rfl rfl (pl_dfl s0 s1 s2 s3 s4)
  | 56, _ => exact wp_s (i := .tableswitch 1278 0 37 #[168, 221, 244, 257, 270, 293, 326, 359, 392, 441, 474, 497, 520, 533, 556, 579, 612, 645, 678, 701, 734, 757, 790, 823, 846, 879, 902, 925, 948, 971, 1004, 1057, 1080, 1103, 1146, 1189, 1242, 1255]) (n := 168) (pc' := 1310) (ls' := [some (.retAddr 0), some (.ref 0), some (.ref 114), some (.int 0)]) (st' := []) (h' := hp_0) rfl rfl (pl_dfl s0 s1 s2 s3 s4)
  | 57, _ => exact wp_s (i := .tableswitch 1278 0 37 #[168, 221, 244, 257, 270, 293, 326, 359, 392, 441, 474, 497, 520, 533, 556, 579, 612, 645, 678, 701, 734, 757, 790, 823, 846, 879, 902, 925, 948, 971, 1004, 1057, 1080, 1103, 1146, 1189, 1242, 1255]) (n := 168) (pc' := 1310) (ls' := [some (.retAddr 0), some (.ref 0), some (.ref 114), some (.int 0)]) (st' := []) (h' := hp_0) rfl rfl (pl_dfl s0 s1 s2 s3 s4)
  | 58, _ => exact wp_s (i := .tableswitch 1278 0 37 #[168, 221, 244, 257, 270, 293, 326, 359, 392, 441, 474, 497, 520, 533, 556, 579, 612, 645, 678, 701, 734, 757, 790, 823, 846, 879, 902, 925, 948, 971, 1004, 1057, 1080, 1103, 1146, 1189, 1242, 1255]) (n := 168) (pc' := 1310) (ls' := [some (.retAddr 0), some (.ref 0), some (.ref 114), some (.int 0)]) (st' := []) (h' := hp_0) rfl rfl (pl_dfl s0 s1 s2 s3 s4)
  | 59, _ => exact wp_s (i := .tableswitch 1278 0 37 #[168, 221, 244, 257, 270, 293, 326, 359, 392, 441, 474, 497, 520, 533, 556, 579, 612, 645, 678, 701, 734, 757, 790, 823, 846, 879, 902, 925, 948, 971, 1004, 1057, 1080, 1103, 1146, 1189, 1242, 1255]) (n := 168) (pc' := 1310) (ls' := [some (.retAddr 0), some (.ref 0), some (.ref 114), some (.int 0)]) (st' := []) (h' := hp_0) rfl rfl (pl_dfl s0 s1 s2 s3 s4)
  | 60, _ => exact wp_s (i := .tableswitch 1278 0 37 #[168, 221, 244, 257, 270, 293, 326, 359, 392, 441, 474, 497, 520, 533, 556, 579, 612, 645, 678, 701, 734, 757, 790, 823, 846, 879, 902, 925, 948, 971, 1004, 1057, 1080, 1103, 1146, 1189, 1242, 1255]) (n := 168) (pc' := 1310) (ls' := [some (.retAddr 0), some (.ref 0), some (.ref 114), some (.int 0)]) (st' := []) (h' := hp_0) rfl rfl (pl_dfl s0 s1 s2 s3 s4)
  | 61, _ => exact wp_s (i := .tableswitch 1278 0 37 #[168, 221, 244, 257, 270, 293, 326, 359, 392, 441, 474, 497, 520, 533, 556, 579, 612, 645, 678, 701, 734, 757, 790, 823, 846, 879, 902, 925, 948, 971, 1004, 1057, 1080, 1103, 1146, 1189, 1242, 1255]) (n := 168) (pc' := 1310) (ls' := [some (.retAddr 0), some (.ref 0), some (.ref 114), some (.int 0)]) (st' := []) (h' := hp_0) rfl rfl (pl_dfl s0 s1 s2 s3 s4)
  | 62, _ => exact wp_s (i := .tableswitch 1278 0 37 #[168, 221, 244, 257, 270, 293, 326, 359, 392, 441, 474, 497, 520, 533, 556, 579, 612, 645, 678, 701, 734, 757, 790, 823, 846, 879, 902, 925, 948, 971, 1004, 1057, 1080, 1103, 1146, 1189, 1242, 1255]) (n := 168) (pc' := 1310) (ls' := [some (.retAddr 0), some (.ref 0), some (.ref 114), some (.int 0)]) (st' := []) (h' := hp_0) rfl rfl (pl_dfl s0 s1 s2 s3 s4)
  | 63, _ => exact wp_s (i := .tableswitch 1278 0 37 #[168, 221, 244, 257, 270, 293, 326, 359, 392, 441, 474, 497, 520, 533, 556, 579, 612, 645, 678, 701, 734, 757, 790, 823, 846, 879, 902, 925, 948, 971, 1004, 1057, 1080, 1103, 1146, 1189, 1242, 1255]) (n := 168) (pc' := 1310) (ls' := [some (.retAddr 0), some (.ref 0), some (.ref 114), some (.int 0)]) (st' := []) (h' := hp_0) rfl rfl (pl_dfl s0 s1 s2 s3 s4)
  | j + 64, hj => exact absurd hj (by omega)
