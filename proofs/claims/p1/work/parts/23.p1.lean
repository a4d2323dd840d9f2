/-! the law, from its entry, on a script of at most 5 ints -/
theorem pm_loop (xs : List Int32) (hx : xs.length ≤ 5) : mm_Wp (some xs) 13 mm_rL 18 [some (.retAddr 0), some (.ref 0), some (.ref 114), some (.int 0)] [] hp_0 pk_Q := by
  refine wp_s (i := .iload_n 3) (n := 1) (pc' := 19) (st' := [.int 0]) rfl rfl ?_
  refine wp_s (i := .aload_n 0) (n := 1) (pc' := 20) (st' := [.retAddr 0, .int 0]) rfl rfl ?_
  refine wp_s (i := .arraylength) (n := 1) (pc' := 21) (st' := [.int (Int32.ofNat xs.length), .int 0]) rfl rfl ?_
  refine wp_s (i := .iconst 5) (n := 1) (pc' := 22) (st' := [.int 5, .int (Int32.ofNat xs.length), .int 0]) rfl rfl ?_
  refine wp_s (i := .isub) (n := 1) (pc' := 23) (st' := [.int (Int32.ofNat xs.length - 5), .int 0]) rfl rfl ?_
  match xs, hx with
  | [], _ => exact (by
    refine wp_s (i := .if_icmp .gt 1293) (n := 3) (pc' := 1316) (st' := []) rfl rfl ?_
    refine wp_s (i := .iconst 1) (n := 1) (pc' := 1317) (st' := [.int 1]) rfl rfl ?_
    exact wp_r (i := .ireturn) (n := 1) (v := some (.int 1)) rfl rfl ⟨rfl, by rw [pk_ok0.1]; omega, by rw [pk_ok0.2]; omega⟩)
  | [a], _ => exact (by
    refine wp_s (i := .if_icmp .gt 1293) (n := 3) (pc' := 1316) (st' := []) rfl rfl ?_
    refine wp_s (i := .iconst 1) (n := 1) (pc' := 1317) (st' := [.int 1]) rfl rfl ?_
    exact wp_r (i := .ireturn) (n := 1) (v := some (.int 1)) rfl rfl ⟨rfl, by rw [pk_ok0.1]; omega, by rw [pk_ok0.2]; omega⟩)
  | [a, b], _ => exact (by
    refine wp_s (i := .if_icmp .gt 1293) (n := 3) (pc' := 1316) (st' := []) rfl rfl ?_
    refine wp_s (i := .iconst 1) (n := 1) (pc' := 1317) (st' := [.int 1]) rfl rfl ?_
    exact wp_r (i := .ireturn) (n := 1) (v := some (.int 1)) rfl rfl ⟨rfl, by rw [pk_ok0.1]; omega, by rw [pk_ok0.2]; omega⟩)
  | [a, b, d], _ => exact (by
    refine wp_s (i := .if_icmp .gt 1293) (n := 3) (pc' := 1316) (st' := []) rfl rfl ?_
    refine wp_s (i := .iconst 1) (n := 1) (pc' := 1317) (st' := [.int 1]) rfl rfl ?_
    exact wp_r (i := .ireturn) (n := 1) (v := some (.int 1)) rfl rfl ⟨rfl, by rw [pk_ok0.1]; omega, by rw [pk_ok0.2]; omega⟩)
  | [a, b, d, f], _ => exact (by
    refine wp_s (i := .if_icmp .gt 1293) (n := 3) (pc' := 1316) (st' := []) rfl rfl ?_
    refine wp_s (i := .iconst 1) (n := 1) (pc' := 1317) (st' := [.int 1]) rfl rfl ?_
    exact wp_r (i := .ireturn) (n := 1) (v := some (.int 1)) rfl rfl ⟨rfl, by rw [pk_ok0.1]; omega, by rw [pk_ok0.2]; omega⟩)
  | [s0, s1, s2, s3, s4], _ =>
    refine wp_ic (t := 1316) (st := []) rfl rfl (fun hc => by have h2 : mm_cc .gt 0 (Int32.ofNat 5 - 5) = true := hc; exact absurd h2 (by decide +kernel)) (fun _ => ?_)
    show mm_Wp (some [s0, s1, s2, s3, s4]) 13 mm_rL 26 [some (.retAddr 0), some (.ref 0), some (.ref 114), some (.int 0)] [] hp_0 pk_Q
    refine wp_s (i := .aload_n 0) (n := 1) (pc' := 27) (st' := [.retAddr 0]) rfl rfl ?_
    refine wp_s (i := .iload_n 3) (n := 1) (pc' := 28) (st' := [.int 0, .retAddr 0]) rfl rfl ?_
    refine wp_s (i := .iaload) (n := 1) (pc' := 29) (st' := [.int s0]) rfl rfl ?_
    refine wp_s (i := .bipush 63) (n := 2) (pc' := 31) (st' := [.int 63, .int s0]) rfl rfl ?_
    refine wp_s (i := .iand) (n := 1) (pc' := 32) (st' := [.int (s0 &&& 63)]) rfl rfl ?_
    exact pl_all s0 s1 s2 s3 s4
  | _ :: _ :: _ :: _ :: _ :: _ :: t, hx => exact absurd hx (by simp)
set_option maxRecDepth 20000 in
theorem pm_all (xs : List Int32) (hx : xs.length ≤ 5) : mm_Wp (some xs) 13 mm_rL 0 mm_L0 [] [] pk_Q := by
  show mm_Wp (some xs) 13 mm_rL 0 [some (.retAddr 0), none, none, none] [] [] pk_Q
  refine wp_s (i := .new 7) (n := 3) (pc' := 3) (st' := [.ref 0]) (h' := [.inr (9, mm_dfs 9)]) rfl rfl ?_
  refine wp_s (i := .dup) (n := 1) (pc' := 4) (st' := [.ref 0, .ref 0]) rfl rfl ?_
  refine wp_c (i := .invokespecial 9) (n := 3) (Dq := 12) (r' := mm_r63) (as := [.ref 0]) (rest := [.ref 0]) rfl rfl rfl ?_
  refine wp_x 2000 hp_ia ?_
  show mm_Wp (some xs) 13 mm_rL 7 [some (.retAddr 0), none, none, none] [.ref 0] hp_a pk_Q
  refine wp_s (i := .astore_n 1) (n := 1) (pc' := 8) (ls' := [some (.retAddr 0), some (.ref 0), none, none]) (st' := []) rfl rfl ?_
  refine wp_s (i := .new 10) (n := 3) (pc' := 11) (st' := [.ref 114]) (h' := hp_a ++ [.inr (10, mm_dfs 10)]) rfl rfl ?_
  refine wp_s (i := .dup) (n := 1) (pc' := 12) (st' := [.ref 114, .ref 114]) rfl rfl ?_
  refine wp_c (i := .invokespecial 12) (n := 3) (Dq := 12) (r' := mm_r119) (as := [.ref 114]) (rest := [.ref 114]) rfl rfl rfl ?_
  refine wp_x 2000 hp_ib ?_
  show mm_Wp (some xs) 13 mm_rL 15 [some (.retAddr 0), some (.ref 0), none, none] [.ref 114] hp_0 pk_Q
  refine wp_s (i := .astore_n 2) (n := 1) (pc' := 16) (ls' := [some (.retAddr 0), some (.ref 0), some (.ref 114), none]) (st' := []) rfl rfl ?_
  refine wp_s (i := .iconst 0) (n := 1) (pc' := 17) (st' := [.int 0]) rfl rfl ?_
  refine wp_s (i := .istore_n 3) (n := 1) (pc' := 18) (ls' := [some (.retAddr 0), some (.ref 0), some (.ref 114), some (.int 0)]) (st' := []) rfl rfl ?_
  exact pm_loop xs hx
theorem mp_all : mm_Want 5 := by
  intro xs hx
  obtain ⟨f, v, h', h1, rfl, h2, h3⟩ := pm_all xs hx
  exact ⟨f, h', h1, h2, h3⟩
