set_option maxRecDepth 20000 in
set_option maxHeartbeats 4000000 in
theorem pk_0 (X : Option (List Int32)) (n : Int64) : mm_Wp X 12 mm_r64 0 [some (.ref 0), some (.long n), none, none] [] hp_0 (fun v1 h1 => ∃ x : Int32, v1 = some (.int x) ∧ (∃ fs, h1[114]? = some (.inr (10, fs))) ∧ mm_Wp X 12 mm_r121 0 [some (.ref 114), some (.long n), none, none] [] h1 (fun v2 h2 => v2 = some (.int x) ∧ pk_ok h2)) := by
  refine wp_s (i := .aload_n 0) (n := 1) (pc' := 1) (st' := [.ref 0]) rfl rfl ?_
  refine wp_gf (idx := 20) (a := 0) (v := .ref 2) (pc' := 4) rfl rfl hb_0 rfl rfl ?_
  refine wp_gf (idx := 70) (a := 2) (v := .int 0) (pc' := 7) rfl rfl hb_2 rfl rfl ?_
  refine wp_s (i := .bipush 8) (n := 2) (pc' := 9) (st' := [.int 8, .int 0]) rfl rfl ?_
  refine wp_s (i := .iadd) (n := 1) (pc' := 10) (st' := [.int 8]) rfl rfl ?_
  refine wp_s (i := .sipush 320) (n := 3) (pc' := 13) (st' := [.int 320, .int 8]) rfl rfl ?_
  refine wp_s (i := .if_icmp .le 6) (n := 3) (pc' := 19) (st' := []) rfl rfl ?_
  refine wp_s (i := .bipush 56) (n := 2) (pc' := 21) (st' := [.int 56]) rfl rfl ?_
  refine wp_s (i := .istore_n 3) (n := 1) (pc' := 22) (ls' := [some (.ref 0), some (.long n), none, some (.int 56)]) (st' := []) rfl rfl ?_
  refine wp_s (i := .iload_n 3) (n := 1) (pc' := 23) (st' := [.int 56]) rfl rfl ?_
  refine wp_s (i := .ifCond .lt 42) (n := 3) (pc' := 26) (st' := []) rfl rfl ?_
  refine wp_s (i := .aload_n 0) (n := 1) (pc' := 27) (st' := [.ref 0]) rfl rfl ?_
  refine wp_gf (idx := 20) (a := 0) (v := .ref 2) (pc' := 30) rfl rfl hb_0 rfl rfl ?_
  refine wp_gf (idx := 76) (a := 2) (v := .ref 3) (pc' := 33) rfl rfl hb_2 rfl rfl ?_
  refine wp_s (i := .aload_n 0) (n := 1) (pc' := 34) (st' := [.ref 0, .ref 3]) rfl rfl ?_
  refine wp_gf (idx := 20) (a := 0) (v := .ref 2) (pc' := 37) rfl rfl hb_0 rfl rfl ?_
  refine wp_gf (idx := 70) (a := 2) (v := .int 0) (pc' := 40) rfl rfl hb_2 rfl rfl ?_
  refine wp_s (i := .lload_n 1) (n := 1) (pc' := 41) (st' := [.long n, .int 0, .ref 3]) rfl rfl ?_
  refine wp_s (i := .iload_n 3) (n := 1) (pc' := 42) (st' := [.int 56, .long n, .int 0, .ref 3]) rfl rfl ?_
  refine wp_s (i := .lushr) (n := 1) (pc' := 43) (st' := [.long ((n.toUInt64 >>> ((56 : Int32).toInt64.toUInt64 &&& Int64.toUInt64 63)).toInt64), .int 0, .ref 3]) rfl rfl ?_
  refine wp_s (i := .l2i) (n := 1) (pc' := 44) (st' := [.int (((n.toUInt64 >>> ((56 : Int32).toInt64.toUInt64 &&& Int64.toUInt64 63)).toInt64).toInt32), .int 0, .ref 3]) rfl rfl ?_
  refine wp_s (i := .i2b) (n := 1) (pc' := 45) (st' := [.int ((((n.toUInt64 >>> ((56 : Int32).toInt64.toUInt64 &&& Int64.toUInt64 63)).toInt64).toInt32).toInt8.toInt32), .int 0, .ref 3]) rfl rfl ?_
  refine wp_bs (l' := ((List.replicate 320 0).set 0 (((((n.toUInt64 >>> ((56 : Int32).toInt64.toUInt64 &&& Int64.toUInt64 63)).toInt64).toInt32).toInt8.toInt32).toInt8.toInt32))) (pc' := 46) rfl hb_3 rfl rfl rfl rfl ?_
  refine wp_s (i := .aload_n 0) (n := 1) (pc' := 47) (st' := [.ref 0]) rfl rfl ?_
  refine wp_gf (idx := 20) (a := 0) (v := .ref 2) (pc' := 50) rfl rfl (mm_sn rfl hb_0) rfl rfl ?_
  refine wp_s (i := .dup) (n := 1) (pc' := 51) (st' := [.ref 2, .ref 2]) rfl rfl ?_
  refine wp_gf (idx := 70) (a := 2) (v := .int 0) (pc' := 54) rfl rfl (mm_sn rfl hb_2) rfl rfl ?_
  refine wp_s (i := .iconst 1) (n := 1) (pc' := 55) (st' := [.int 1, .int 0, .ref 2]) rfl rfl ?_
  refine wp_s (i := .iadd) (n := 1) (pc' := 56) (st' := [.int 1, .ref 2]) rfl rfl ?_
  refine wp_pf (idx := 70) (a := 2) (fs' := [.ref 3, .int 1]) (pc' := 59) rfl rfl rfl (mm_sn rfl hb_2) rfl rfl rfl rfl rfl ?_
  refine wp_s (i := .iinc 3 (-8)) (n := 3) (pc' := 62) (ls' := [some (.ref 0), some (.long n), none, some (.int 48)]) (st' := []) rfl rfl ?_
  refine wp_s (i := .goto (-40)) (n := 3) (pc' := 22) (st' := []) rfl rfl ?_
  refine wp_s (i := .iload_n 3) (n := 1) (pc' := 23) (st' := [.int 48]) rfl rfl ?_
  refine wp_s (i := .ifCond .lt 42) (n := 3) (pc' := 26) (st' := []) rfl rfl ?_
  refine wp_s (i := .aload_n 0) (n := 1) (pc' := 27) (st' := [.ref 0]) rfl rfl ?_
  refine wp_gf (idx := 20) (a := 0) (v := .ref 2) (pc' := 30) rfl rfl (mm_sn rfl (mm_sn rfl hb_0)) rfl rfl ?_
  refine wp_gf (idx := 76) (a := 2) (v := .ref 3) (pc' := 33) rfl rfl (mm_ss (mm_sn rfl hb_2)) rfl rfl ?_
  refine wp_s (i := .aload_n 0) (n := 1) (pc' := 34) (st' := [.ref 0, .ref 3]) rfl rfl ?_
  refine wp_gf (idx := 20) (a := 0) (v := .ref 2) (pc' := 37) rfl rfl (mm_sn rfl (mm_sn rfl hb_0)) rfl rfl ?_
  refine wp_gf (idx := 70) (a := 2) (v := .int 1) (pc' := 40) rfl rfl (mm_ss (mm_sn rfl hb_2)) rfl rfl ?_
  refine wp_s (i := .lload_n 1) (n := 1) (pc' := 41) (st' := [.long n, .int 1, .ref 3]) rfl rfl ?_
  refine wp_s (i := .iload_n 3) (n := 1) (pc' := 42) (st' := [.int 48, .long n, .int 1, .ref 3]) rfl rfl ?_
  refine wp_s (i := .lushr) (n := 1) (pc' := 43) (st' := [.long ((n.toUInt64 >>> ((48 : Int32).toInt64.toUInt64 &&& Int64.toUInt64 63)).toInt64), .int 1, .ref 3]) rfl rfl ?_
  refine wp_s (i := .l2i) (n := 1) (pc' := 44) (st' := [.int (((n.toUInt64 >>> ((48 : Int32).toInt64.toUInt64 &&& Int64.toUInt64 63)).toInt64).toInt32), .int 1, .ref 3]) rfl rfl ?_
  refine wp_s (i := .i2b) (n := 1) (pc' := 45) (st' := [.int ((((n.toUInt64 >>> ((48 : Int32).toInt64.toUInt64 &&& Int64.toUInt64 63)).toInt64).toInt32).toInt8.toInt32), .int 1, .ref 3]) rfl rfl ?_
  refine wp_bs (l' := (((List.replicate 320 0).set 0 (((((n.toUInt64 >>> ((56 : Int32).toInt64.toUInt64 &&& Int64.toUInt64 63)).toInt64).toInt32).toInt8.toInt32).toInt8.toInt32)).set 1 (((((n.toUInt64 >>> ((48 : Int32).toInt64.toUInt64 &&& Int64.toUInt64 63)).toInt64).toInt32).toInt8.toInt32).toInt8.toInt32))) (pc' := 46) rfl (mm_sn rfl (mm_ss hb_3)) rfl rfl (mm_rc rfl mm_rs2) rfl ?_
  refine wp_s (i := .aload_n 0) (n := 1) (pc' := 47) (st' := [.ref 0]) rfl rfl ?_
  refine wp_gf (idx := 20) (a := 0) (v := .ref 2) (pc' := 50) rfl rfl (mm_sn rfl (mm_sn rfl hb_0)) rfl rfl ?_
  refine wp_s (i := .dup) (n := 1) (pc' := 51) (st' := [.ref 2, .ref 2]) rfl rfl ?_
  refine wp_gf (idx := 70) (a := 2) (v := .int 1) (pc' := 54) rfl rfl (mm_ss (mm_sn rfl hb_2)) rfl rfl ?_
  refine wp_s (i := .iconst 1) (n := 1) (pc' := 55) (st' := [.int 1, .int 1, .ref 2]) rfl rfl ?_
  refine wp_s (i := .iadd) (n := 1) (pc' := 56) (st' := [.int 2, .ref 2]) rfl rfl ?_
  refine wp_pf (idx := 70) (a := 2) (fs' := [.ref 3, .int 2]) (pc' := 59) rfl rfl rfl (mm_ss (mm_sn rfl hb_2)) rfl rfl rfl mm_rs2 rfl ?_
  refine wp_s (i := .iinc 3 (-8)) (n := 3) (pc' := 62) (ls' := [some (.ref 0), some (.long n), none, some (.int 40)]) (st' := []) rfl rfl ?_
  refine wp_s (i := .goto (-40)) (n := 3) (pc' := 22) (st' := []) rfl rfl ?_
  refine wp_s (i := .iload_n 3) (n := 1) (pc' := 23) (st' := [.int 40]) rfl rfl ?_
  refine wp_s (i := .ifCond .lt 42) (n := 3) (pc' := 26) (st' := []) rfl rfl ?_
  refine wp_s (i := .aload_n 0) (n := 1) (pc' := 27) (st' := [.ref 0]) rfl rfl ?_
  refine wp_gf (idx := 20) (a := 0) (v := .ref 2) (pc' := 30) rfl rfl (mm_sn rfl (mm_sn rfl hb_0)) rfl rfl ?_
  refine wp_gf (idx := 76) (a := 2) (v := .ref 3) (pc' := 33) rfl rfl (mm_ss (mm_sn rfl hb_2)) rfl rfl ?_
  refine wp_s (i := .aload_n 0) (n := 1) (pc' := 34) (st' := [.ref 0, .ref 3]) rfl rfl ?_
  refine wp_gf (idx := 20) (a := 0) (v := .ref 2) (pc' := 37) rfl rfl (mm_sn rfl (mm_sn rfl hb_0)) rfl rfl ?_
  refine wp_gf (idx := 70) (a := 2) (v := .int 2) (pc' := 40) rfl rfl (mm_ss (mm_sn rfl hb_2)) rfl rfl ?_
  refine wp_s (i := .lload_n 1) (n := 1) (pc' := 41) (st' := [.long n, .int 2, .ref 3]) rfl rfl ?_
  refine wp_s (i := .iload_n 3) (n := 1) (pc' := 42) (st' := [.int 40, .long n, .int 2, .ref 3]) rfl rfl ?_
  refine wp_s (i := .lushr) (n := 1) (pc' := 43) (st' := [.long ((n.toUInt64 >>> ((40 : Int32).toInt64.toUInt64 &&& Int64.toUInt64 63)).toInt64), .int 2, .ref 3]) rfl rfl ?_
  refine wp_s (i := .l2i) (n := 1) (pc' := 44) (st' := [.int (((n.toUInt64 >>> ((40 : Int32).toInt64.toUInt64 &&& Int64.toUInt64 63)).toInt64).toInt32), .int 2, .ref 3]) rfl rfl ?_
  refine wp_s (i := .i2b) (n := 1) (pc' := 45) (st' := [.int ((((n.toUInt64 >>> ((40 : Int32).toInt64.toUInt64 &&& Int64.toUInt64 63)).toInt64).toInt32).toInt8.toInt32), .int 2, .ref 3]) rfl rfl ?_
  refine wp_bs (l' := ((((List.replicate 320 0).set 0 (((((n.toUInt64 >>> ((56 : Int32).toInt64.toUInt64 &&& Int64.toUInt64 63)).toInt64).toInt32).toInt8.toInt32).toInt8.toInt32)).set 1 (((((n.toUInt64 >>> ((48 : Int32).toInt64.toUInt64 &&& Int64.toUInt64 63)).toInt64).toInt32).toInt8.toInt32).toInt8.toInt32)).set 2 (((((n.toUInt64 >>> ((40 : Int32).toInt64.toUInt64 &&& Int64.toUInt64 63)).toInt64).toInt32).toInt8.toInt32).toInt8.toInt32))) (pc' := 46) rfl (mm_sn rfl (mm_ss hb_3)) rfl rfl (mm_rc rfl mm_rs2) rfl ?_
  refine wp_s (i := .aload_n 0) (n := 1) (pc' := 47) (st' := [.ref 0]) rfl rfl ?_
  refine wp_gf (idx := 20) (a := 0) (v := .ref 2) (pc' := 50) rfl rfl (mm_sn rfl (mm_sn rfl hb_0)) rfl rfl ?_
  refine wp_s (i := .dup) (n := 1) (pc' := 51) (st' := [.ref 2, .ref 2]) rfl rfl ?_
  refine wp_gf (idx := 70) (a := 2) (v := .int 2) (pc' := 54) rfl rfl (mm_ss (mm_sn rfl hb_2)) rfl rfl ?_
  refine wp_s (i := .iconst 1) (n := 1) (pc' := 55) (st' := [.int 1, .int 2, .ref 2]) rfl rfl ?_
  refine wp_s (i := .iadd) (n := 1) (pc' := 56) (st' := [.int 3, .ref 2]) rfl rfl ?_
  refine wp_pf (idx := 70) (a := 2) (fs' := [.ref 3, .int 3]) (pc' := 59) rfl rfl rfl (mm_ss (mm_sn rfl hb_2)) rfl rfl rfl mm_rs2 rfl ?_
  refine wp_s (i := .iinc 3 (-8)) (n := 3) (pc' := 62) (ls' := [some (.ref 0), some (.long n), none, some (.int 32)]) (st' := []) rfl rfl ?_
  refine wp_s (i := .goto (-40)) (n := 3) (pc' := 22) (st' := []) rfl rfl ?_
  refine wp_s (i := .iload_n 3) (n := 1) (pc' := 23) (st' := [.int 32]) rfl rfl ?_
  refine wp_s (i := .ifCond .lt 42) (n := 3) (pc' := 26) (st' := []) rfl rfl ?_
  refine wp_s (i := .aload_n 0) (n := 1) (pc' := 27) (st' := [.ref 0]) rfl rfl ?_
  refine wp_gf (idx := 20) (a := 0) (v := .ref 2) (pc' := 30) rfl rfl (mm_sn rfl (mm_sn rfl hb_0)) rfl rfl ?_
  refine wp_gf (idx := 76) (a := 2) (v := .ref 3) (pc' := 33) rfl rfl (mm_ss (mm_sn rfl hb_2)) rfl rfl ?_
  refine wp_s (i := .aload_n 0) (n := 1) (pc' := 34) (st' := [.ref 0, .ref 3]) rfl rfl ?_
  refine wp_gf (idx := 20) (a := 0) (v := .ref 2) (pc' := 37) rfl rfl (mm_sn rfl (mm_sn rfl hb_0)) rfl rfl ?_
  refine wp_gf (idx := 70) (a := 2) (v := .int 3) (pc' := 40) rfl rfl (mm_ss (mm_sn rfl hb_2)) rfl rfl ?_
  refine wp_s (i := .lload_n 1) (n := 1) (pc' := 41) (st' := [.long n, .int 3, .ref 3]) rfl rfl ?_
  refine wp_s (i := .iload_n 3) (n := 1) (pc' := 42) (st' := [.int 32, .long n, .int 3, .ref 3]) rfl rfl ?_
  refine wp_s (i := .lushr) (n := 1) (pc' := 43) (st' := [.long ((n.toUInt64 >>> ((32 : Int32).toInt64.toUInt64 &&& Int64.toUInt64 63)).toInt64), .int 3, .ref 3]) rfl rfl ?_
  refine wp_s (i := .l2i) (n := 1) (pc' := 44) (st' := [.int (((n.toUInt64 >>> ((32 : Int32).toInt64.toUInt64 &&& Int64.toUInt64 63)).toInt64).toInt32), .int 3, .ref 3]) rfl rfl ?_
  refine wp_s (i := .i2b) (n := 1) (pc' := 45) (st' := [.int ((((n.toUInt64 >>> ((32 : Int32).toInt64.toUInt64 &&& Int64.toUInt64 63)).toInt64).toInt32).toInt8.toInt32), .int 3, .ref 3]) rfl rfl ?_
  refine wp_bs (l' := (((((List.replicate 320 0).set 0 (((((n.toUInt64 >>> ((56 : Int32).toInt64.toUInt64 &&& Int64.toUInt64 63)).toInt64).toInt32).toInt8.toInt32).toInt8.toInt32)).set 1 (((((n.toUInt64 >>> ((48 : Int32).toInt64.toUInt64 &&& Int64.toUInt64 63)).toInt64).toInt32).toInt8.toInt32).toInt8.toInt32)).set 2 (((((n.toUInt64 >>> ((40 : Int32).toInt64.toUInt64 &&& Int64.toUInt64 63)).toInt64).toInt32).toInt8.toInt32).toInt8.toInt32)).set 3 (((((n.toUInt64 >>> ((32 : Int32).toInt64.toUInt64 &&& Int64.toUInt64 63)).toInt64).toInt32).toInt8.toInt32).toInt8.toInt32))) (pc' := 46) rfl (mm_sn rfl (mm_ss hb_3)) rfl rfl (mm_rc rfl mm_rs2) rfl ?_
  refine wp_s (i := .aload_n 0) (n := 1) (pc' := 47) (st' := [.ref 0]) rfl rfl ?_
  refine wp_gf (idx := 20) (a := 0) (v := .ref 2) (pc' := 50) rfl rfl (mm_sn rfl (mm_sn rfl hb_0)) rfl rfl ?_
  refine wp_s (i := .dup) (n := 1) (pc' := 51) (st' := [.ref 2, .ref 2]) rfl rfl ?_
  refine wp_gf (idx := 70) (a := 2) (v := .int 3) (pc' := 54) rfl rfl (mm_ss (mm_sn rfl hb_2)) rfl rfl ?_
  refine wp_s (i := .iconst 1) (n := 1) (pc' := 55) (st' := [.int 1, .int 3, .ref 2]) rfl rfl ?_
  refine wp_s (i := .iadd) (n := 1) (pc' := 56) (st' := [.int 4, .ref 2]) rfl rfl ?_
  refine wp_pf (idx := 70) (a := 2) (fs' := [.ref 3, .int 4]) (pc' := 59) rfl rfl rfl (mm_ss (mm_sn rfl hb_2)) rfl rfl rfl mm_rs2 rfl ?_
  refine wp_s (i := .iinc 3 (-8)) (n := 3) (pc' := 62) (ls' := [some (.ref 0), some (.long n), none, some (.int 24)]) (st' := []) rfl rfl ?_
  refine wp_s (i := .goto (-40)) (n := 3) (pc' := 22) (st' := []) rfl rfl ?_
  refine wp_s (i := .iload_n 3) (n := 1) (pc' := 23) (st' := [.int 24]) rfl rfl ?_
  refine wp_s (i := .ifCond .lt 42) (n := 3) (pc' := 26) (st' := []) rfl rfl ?_
  refine wp_s (i := .aload_n 0) (n := 1) (pc' := 27) (st' := [.ref 0]) rfl rfl ?_
  refine wp_gf (idx := 20) (a := 0) (v := .ref 2) (pc' := 30) rfl rfl (mm_sn rfl (mm_sn rfl hb_0)) rfl rfl ?_
  refine wp_gf (idx := 76) (a := 2) (v := .ref 3) (pc' := 33) rfl rfl (mm_ss (mm_sn rfl hb_2)) rfl rfl ?_
  refine wp_s (i := .aload_n 0) (n := 1) (pc' := 34) (st' := [.ref 0, .ref 3]) rfl rfl ?_
  refine wp_gf (idx := 20) (a := 0) (v := .ref 2) (pc' := 37) rfl rfl (mm_sn rfl (mm_sn rfl hb_0)) rfl rfl ?_
  refine wp_gf (idx := 70) (a := 2) (v := .int 4) (pc' := 40) rfl rfl (mm_ss (mm_sn rfl hb_2)) rfl rfl ?_
  refine wp_s (i := .lload_n 1) (n := 1) (pc' := 41) (st' := [.long n, .int 4, .ref 3]) rfl rfl ?_
  refine wp_s (i := .iload_n 3) (n := 1) (pc' := 42) (st' := [.int 24, .long n, .int 4, .ref 3]) rfl rfl ?_
  refine wp_s (i := .lushr) (n := 1) (pc' := 43) (st' := [.long ((n.toUInt64 >>> ((24 : Int32).toInt64.toUInt64 &&& Int64.toUInt64 63)).toInt64), .int 4, .ref 3]) rfl rfl ?_
  refine wp_s (i := .l2i) (n := 1) (pc' := 44) (st' := [.int (((n.toUInt64 >>> ((24 : Int32).toInt64.toUInt64 &&& Int64.toUInt64 63)).toInt64).toInt32), .int 4, .ref 3]) rfl rfl ?_
  refine wp_s (i := .i2b) (n := 1) (pc' := 45) (st' := [.int ((((n.toUInt64 >>> ((24 : Int32).toInt64.toUInt64 &&& Int64.toUInt64 63)).toInt64).toInt32).toInt8.toInt32), .int 4, .ref 3]) rfl rfl ?_
  refine wp_bs (l' := ((((((List.replicate 320 0).set 0 (((((n.toUInt64 >>> ((56 : Int32).toInt64.toUInt64 &&& Int64.toUInt64 63)).toInt64).toInt32).toInt8.toInt32).toInt8.toInt32)).set 1 (((((n.toUInt64 >>> ((48 : Int32).toInt64.toUInt64 &&& Int64.toUInt64 63)).toInt64).toInt32).toInt8.toInt32).toInt8.toInt32)).set 2 (((((n.toUInt64 >>> ((40 : Int32).toInt64.toUInt64 &&& Int64.toUInt64 63)).toInt64).toInt32).toInt8.toInt32).toInt8.toInt32)).set 3 (((((n.toUInt64 >>> ((32 : Int32).toInt64.toUInt64 &&& Int64.toUInt64 63)).toInt64).toInt32).toInt8.toInt32).toInt8.toInt32)).set 4 (((((n.toUInt64 >>> ((24 : Int32).toInt64.toUInt64 &&& Int64.toUInt64 63)).toInt64).toInt32).toInt8.toInt32).toInt8.toInt32))) (pc' := 46) rfl (mm_sn rfl (mm_ss hb_3)) rfl rfl (mm_rc rfl mm_rs2) rfl ?_
  refine wp_s (i := .aload_n 0) (n := 1) (pc' := 47) (st' := [.ref 0]) rfl rfl ?_
  refine wp_gf (idx := 20) (a := 0) (v := .ref 2) (pc' := 50) rfl rfl (mm_sn rfl (mm_sn rfl hb_0)) rfl rfl ?_
  refine wp_s (i := .dup) (n := 1) (pc' := 51) (st' := [.ref 2, .ref 2]) rfl rfl ?_
  refine wp_gf (idx := 70) (a := 2) (v := .int 4) (pc' := 54) rfl rfl (mm_ss (mm_sn rfl hb_2)) rfl rfl ?_
  refine wp_s (i := .iconst 1) (n := 1) (pc' := 55) (st' := [.int 1, .int 4, .ref 2]) rfl rfl ?_
  refine wp_s (i := .iadd) (n := 1) (pc' := 56) (st' := [.int 5, .ref 2]) rfl rfl ?_
  refine wp_pf (idx := 70) (a := 2) (fs' := [.ref 3, .int 5]) (pc' := 59) rfl rfl rfl (mm_ss (mm_sn rfl hb_2)) rfl rfl rfl mm_rs2 rfl ?_
  refine wp_s (i := .iinc 3 (-8)) (n := 3) (pc' := 62) (ls' := [some (.ref 0), some (.long n), none, some (.int 16)]) (st' := []) rfl rfl ?_
  refine wp_s (i := .goto (-40)) (n := 3) (pc' := 22) (st' := []) rfl rfl ?_
  refine wp_s (i := .iload_n 3) (n := 1) (pc' := 23) (st' := [.int 16]) rfl rfl ?_
  refine wp_s (i := .ifCond .lt 42) (n := 3) (pc' := 26) (st' := []) rfl rfl ?_
  refine wp_s (i := .aload_n 0) (n := 1) (pc' := 27) (st' := [.ref 0]) rfl rfl ?_
  refine wp_gf (idx := 20) (a := 0) (v := .ref 2) (pc' := 30) rfl rfl (mm_sn rfl (mm_sn rfl hb_0)) rfl rfl ?_
  refine wp_gf (idx := 76) (a := 2) (v := .ref 3) (pc' := 33) rfl rfl (mm_ss (mm_sn rfl hb_2)) rfl rfl ?_
  refine wp_s (i := .aload_n 0) (n := 1) (pc' := 34) (st' := [.ref 0, .ref 3]) rfl rfl ?_
  refine wp_gf (idx := 20) (a := 0) (v := .ref 2) (pc' := 37) rfl rfl (mm_sn rfl (mm_sn rfl hb_0)) rfl rfl ?_
  refine wp_gf (idx := 70) (a := 2) (v := .int 5) (pc' := 40) rfl rfl (mm_ss (mm_sn rfl hb_2)) rfl rfl ?_
  refine wp_s (i := .lload_n 1) (n := 1) (pc' := 41) (st' := [.long n, .int 5, .ref 3]) rfl rfl ?_
  refine wp_s (i := .iload_n 3) (n := 1) (pc' := 42) (st' := [.int 16, .long n, .int 5, .ref 3]) rfl rfl ?_
  refine wp_s (i := .lushr) (n := 1) (pc' := 43) (st' := [.long ((n.toUInt64 >>> ((16 : Int32).toInt64.toUInt64 &&& Int64.toUInt64 63)).toInt64), .int 5, .ref 3]) rfl rfl ?_
  refine wp_s (i := .l2i) (n := 1) (pc' := 44) (st' := [.int (((n.toUInt64 >>> ((16 : Int32).toInt64.toUInt64 &&& Int64.toUInt64 63)).toInt64).toInt32), .int 5, .ref 3]) rfl rfl ?_
  refine wp_s (i := .i2b) (n := 1) (pc' := 45) (st' := [.int ((((n.toUInt64 >>> ((16 : Int32).toInt64.toUInt64 &&& Int64.toUInt64 63)).toInt64).toInt32).toInt8.toInt32), .int 5, .ref 3]) rfl rfl ?_
  refine wp_bs (l' := (((((((List.replicate 320 0).set 0 (((((n.toUInt64 >>> ((56 : Int32).toInt64.toUInt64 &&& Int64.toUInt64 63)).toInt64).toInt32).toInt8.toInt32).toInt8.toInt32)).set 1 (((((n.toUInt64 >>> ((48 : Int32).toInt64.toUInt64 &&& Int64.toUInt64 63)).toInt64).toInt32).toInt8.toInt32).toInt8.toInt32)).set 2 (((((n.toUInt64 >>> ((40 : Int32).toInt64.toUInt64 &&& Int64.toUInt64 63)).toInt64).toInt32).toInt8.toInt32).toInt8.toInt32)).set 3 (((((n.toUInt64 >>> ((32 : Int32).toInt64.toUInt64 &&& Int64.toUInt64 63)).toInt64).toInt32).toInt8.toInt32).toInt8.toInt32)).set 4 (((((n.toUInt64 >>> ((24 : Int32).toInt64.toUInt64 &&& Int64.toUInt64 63)).toInt64).toInt32).toInt8.toInt32).toInt8.toInt32)).set 5 (((((n.toUInt64 >>> ((16 : Int32).toInt64.toUInt64 &&& Int64.toUInt64 63)).toInt64).toInt32).toInt8.toInt32).toInt8.toInt32))) (pc' := 46) rfl (mm_sn rfl (mm_ss hb_3)) rfl rfl (mm_rc rfl mm_rs2) rfl ?_
  refine wp_s (i := .aload_n 0) (n := 1) (pc' := 47) (st' := [.ref 0]) rfl rfl ?_
  refine wp_gf (idx := 20) (a := 0) (v := .ref 2) (pc' := 50) rfl rfl (mm_sn rfl (mm_sn rfl hb_0)) rfl rfl ?_
  refine wp_s (i := .dup) (n := 1) (pc' := 51) (st' := [.ref 2, .ref 2]) rfl rfl ?_
  refine wp_gf (idx := 70) (a := 2) (v := .int 5) (pc' := 54) rfl rfl (mm_ss (mm_sn rfl hb_2)) rfl rfl ?_
  refine wp_s (i := .iconst 1) (n := 1) (pc' := 55) (st' := [.int 1, .int 5, .ref 2]) rfl rfl ?_
  refine wp_s (i := .iadd) (n := 1) (pc' := 56) (st' := [.int 6, .ref 2]) rfl rfl ?_
  refine wp_pf (idx := 70) (a := 2) (fs' := [.ref 3, .int 6]) (pc' := 59) rfl rfl rfl (mm_ss (mm_sn rfl hb_2)) rfl rfl rfl mm_rs2 rfl ?_
  refine wp_s (i := .iinc 3 (-8)) (n := 3) (pc' := 62) (ls' := [some (.ref 0), some (.long n), none, some (.int 8)]) (st' := []) rfl rfl ?_
  refine wp_s (i := .goto (-40)) (n := 3) (pc' := 22) (st' := []) rfl rfl ?_
  refine wp_s (i := .iload_n 3) (n := 1) (pc' := 23) (st' := [.int 8]) rfl rfl ?_
  refine wp_s (i := .ifCond .lt 42) (n := 3) (pc' := 26) (st' := []) rfl rfl ?_
  refine wp_s (i := .aload_n 0) (n := 1) (pc' := 27) (st' := [.ref 0]) rfl rfl ?_
  refine wp_gf (idx := 20) (a := 0) (v := .ref 2) (pc' := 30) rfl rfl (mm_sn rfl (mm_sn rfl hb_0)) rfl rfl ?_
  refine wp_gf (idx := 76) (a := 2) (v := .ref 3) (pc' := 33) rfl rfl (mm_ss (mm_sn rfl hb_2)) rfl rfl ?_
  refine wp_s (i := .aload_n 0) (n := 1) (pc' := 34) (st' := [.ref 0, .ref 3]) rfl rfl ?_
  refine wp_gf (idx := 20) (a := 0) (v := .ref 2) (pc' := 37) rfl rfl (mm_sn rfl (mm_sn rfl hb_0)) rfl rfl ?_
  refine wp_gf (idx := 70) (a := 2) (v := .int 6) (pc' := 40) rfl rfl (mm_ss (mm_sn rfl hb_2)) rfl rfl ?_
  refine wp_s (i := .lload_n 1) (n := 1) (pc' := 41) (st' := [.long n, .int 6, .ref 3]) rfl rfl ?_
  refine wp_s (i := .iload_n 3) (n := 1) (pc' := 42) (st' := [.int 8, .long n, .int 6, .ref 3]) rfl rfl ?_
  refine wp_s (i := .lushr) (n := 1) (pc' := 43) (st' := [.long ((n.toUInt64 >>> ((8 : Int32).toInt64.toUInt64 &&& Int64.toUInt64 63)).toInt64), .int 6, .ref 3]) rfl rfl ?_
  refine wp_s (i := .l2i) (n := 1) (pc' := 44) (st' := [.int (((n.toUInt64 >>> ((8 : Int32).toInt64.toUInt64 &&& Int64.toUInt64 63)).toInt64).toInt32), .int 6, .ref 3]) rfl rfl ?_
  refine wp_s (i := .i2b) (n := 1) (pc' := 45) (st' := [.int ((((n.toUInt64 >>> ((8 : Int32).toInt64.toUInt64 &&& Int64.toUInt64 63)).toInt64).toInt32).toInt8.toInt32), .int 6, .ref 3]) rfl rfl ?_
  refine wp_bs (l' := ((((((((List.replicate 320 0).set 0 (((((n.toUInt64 >>> ((56 : Int32).toInt64.toUInt64 &&& Int64.toUInt64 63)).toInt64).toInt32).toInt8.toInt32).toInt8.toInt32)).set 1 (((((n.toUInt64 >>> ((48 : Int32).toInt64.toUInt64 &&& Int64.toUInt64 63)).toInt64).toInt32).toInt8.toInt32).toInt8.toInt32)).set 2 (((((n.toUInt64 >>> ((40 : Int32).toInt64.toUInt64 &&& Int64.toUInt64 63)).toInt64).toInt32).toInt8.toInt32).toInt8.toInt32)).set 3 (((((n.toUInt64 >>> ((32 : Int32).toInt64.toUInt64 &&& Int64.toUInt64 63)).toInt64).toInt32).toInt8.toInt32).toInt8.toInt32)).set 4 (((((n.toUInt64 >>> ((24 : Int32).toInt64.toUInt64 &&& Int64.toUInt64 63)).toInt64).toInt32).toInt8.toInt32).toInt8.toInt32)).set 5 (((((n.toUInt64 >>> ((16 : Int32).toInt64.toUInt64 &&& Int64.toUInt64 63)).toInt64).toInt32).toInt8.toInt32).toInt8.toInt32)).set 6 (((((n.toUInt64 >>> ((8 : Int32).toInt64.toUInt64 &&& Int64.toUInt64 63)).toInt64).toInt32).toInt8.toInt32).toInt8.toInt32))) (pc' := 46) rfl (mm_sn rfl (mm_ss hb_3)) rfl rfl (mm_rc rfl mm_rs2) rfl ?_
  refine wp_s (i := .aload_n 0) (n := 1) (pc' := 47) (st' := [.ref 0]) rfl rfl ?_
  refine wp_gf (idx := 20) (a := 0) (v := .ref 2) (pc' := 50) rfl rfl (mm_sn rfl (mm_sn rfl hb_0)) rfl rfl ?_
  refine wp_s (i := .dup) (n := 1) (pc' := 51) (st' := [.ref 2, .ref 2]) rfl rfl ?_
  refine wp_gf (idx := 70) (a := 2) (v := .int 6) (pc' := 54) rfl rfl (mm_ss (mm_sn rfl hb_2)) rfl rfl ?_
  refine wp_s (i := .iconst 1) (n := 1) (pc' := 55) (st' := [.int 1, .int 6, .ref 2]) rfl rfl ?_
  refine wp_s (i := .iadd) (n := 1) (pc' := 56) (st' := [.int 7, .ref 2]) rfl rfl ?_
  refine wp_pf (idx := 70) (a := 2) (fs' := [.ref 3, .int 7]) (pc' := 59) rfl rfl rfl (mm_ss (mm_sn rfl hb_2)) rfl rfl rfl mm_rs2 rfl ?_
  refine wp_s (i := .iinc 3 (-8)) (n := 3) (pc' := 62) (ls' := [some (.ref 0), some (.long n), none, some (.int 0)]) (st' := []) rfl rfl ?_
  refine wp_s (i := .goto (-40)) (n := 3) (pc' := 22) (st' := []) rfl rfl ?_
  refine wp_s (i := .iload_n 3) (n := 1) (pc' := 23) (st' := [.int 0]) rfl rfl ?_
  refine wp_s (i := .ifCond .lt 42) (n := 3) (pc' := 26) (st' := []) rfl rfl ?_
  refine wp_s (i := .aload_n 0) (n := 1) (pc' := 27) (st' := [.ref 0]) rfl rfl ?_
  refine wp_gf (idx := 20) (a := 0) (v := .ref 2) (pc' := 30) rfl rfl (mm_sn rfl (mm_sn rfl hb_0)) rfl rfl ?_
  refine wp_gf (idx := 76) (a := 2) (v := .ref 3) (pc' := 33) rfl rfl (mm_ss (mm_sn rfl hb_2)) rfl rfl ?_
  refine wp_s (i := .aload_n 0) (n := 1) (pc' := 34) (st' := [.ref 0, .ref 3]) rfl rfl ?_
  refine wp_gf (idx := 20) (a := 0) (v := .ref 2) (pc' := 37) rfl rfl (mm_sn rfl (mm_sn rfl hb_0)) rfl rfl ?_
  refine wp_gf (idx := 70) (a := 2) (v := .int 7) (pc' := 40) rfl rfl (mm_ss (mm_sn rfl hb_2)) rfl rfl ?_
  refine wp_s (i := .lload_n 1) (n := 1) (pc' := 41) (st' := [.long n, .int 7, .ref 3]) rfl rfl ?_
  refine wp_s (i := .iload_n 3) (n := 1) (pc' := 42) (st' := [.int 0, .long n, .int 7, .ref 3]) rfl rfl ?_
  refine wp_s (i := .lushr) (n := 1) (pc' := 43) (st' := [.long ((n.toUInt64 >>> ((0 : Int32).toInt64.toUInt64 &&& Int64.toUInt64 63)).toInt64), .int 7, .ref 3]) rfl rfl ?_
  refine wp_s (i := .l2i) (n := 1) (pc' := 44) (st' := [.int (((n.toUInt64 >>> ((0 : Int32).toInt64.toUInt64 &&& Int64.toUInt64 63)).toInt64).toInt32), .int 7, .ref 3]) rfl rfl ?_
  refine wp_s (i := .i2b) (n := 1) (pc' := 45) (st' := [.int ((((n.toUInt64 >>> ((0 : Int32).toInt64.toUInt64 &&& Int64.toUInt64 63)).toInt64).toInt32).toInt8.toInt32), .int 7, .ref 3]) rfl rfl ?_
  refine wp_bs (l' := (((((((((List.replicate 320 0).set 0 (((((n.toUInt64 >>> ((56 : Int32).toInt64.toUInt64 &&& Int64.toUInt64 63)).toInt64).toInt32).toInt8.toInt32).toInt8.toInt32)).set 1 (((((n.toUInt64 >>> ((48 : Int32).toInt64.toUInt64 &&& Int64.toUInt64 63)).toInt64).toInt32).toInt8.toInt32).toInt8.toInt32)).set 2 (((((n.toUInt64 >>> ((40 : Int32).toInt64.toUInt64 &&& Int64.toUInt64 63)).toInt64).toInt32).toInt8.toInt32).toInt8.toInt32)).set 3 (((((n.toUInt64 >>> ((32 : Int32).toInt64.toUInt64 &&& Int64.toUInt64 63)).toInt64).toInt32).toInt8.toInt32).toInt8.toInt32)).set 4 (((((n.toUInt64 >>> ((24 : Int32).toInt64.toUInt64 &&& Int64.toUInt64 63)).toInt64).toInt32).toInt8.toInt32).toInt8.toInt32)).set 5 (((((n.toUInt64 >>> ((16 : Int32).toInt64.toUInt64 &&& Int64.toUInt64 63)).toInt64).toInt32).toInt8.toInt32).toInt8.toInt32)).set 6 (((((n.toUInt64 >>> ((8 : Int32).toInt64.toUInt64 &&& Int64.toUInt64 63)).toInt64).toInt32).toInt8.toInt32).toInt8.toInt32)).set 7 (((((n.toUInt64 >>> ((0 : Int32).toInt64.toUInt64 &&& Int64.toUInt64 63)).toInt64).toInt32).toInt8.toInt32).toInt8.toInt32))) (pc' := 46) rfl (mm_sn rfl (mm_ss hb_3)) rfl rfl (mm_rc rfl mm_rs2) rfl ?_
  refine wp_s (i := .aload_n 0) (n := 1) (pc' := 47) (st' := [.ref 0]) rfl rfl ?_
  refine wp_gf (idx := 20) (a := 0) (v := .ref 2) (pc' := 50) rfl rfl (mm_sn rfl (mm_sn rfl hb_0)) rfl rfl ?_
  refine wp_s (i := .dup) (n := 1) (pc' := 51) (st' := [.ref 2, .ref 2]) rfl rfl ?_
  refine wp_gf (idx := 70) (a := 2) (v := .int 7) (pc' := 54) rfl rfl (mm_ss (mm_sn rfl hb_2)) rfl rfl ?_
  refine wp_s (i := .iconst 1) (n := 1) (pc' := 55) (st' := [.int 1, .int 7, .ref 2]) rfl rfl ?_
  refine wp_s (i := .iadd) (n := 1) (pc' := 56) (st' := [.int 8, .ref 2]) rfl rfl ?_
  refine wp_pf (idx := 70) (a := 2) (fs' := [.ref 3, .int 8]) (pc' := 59) rfl rfl rfl (mm_ss (mm_sn rfl hb_2)) rfl rfl rfl mm_rs2 rfl ?_
  refine wp_s (i := .iinc 3 (-8)) (n := 3) (pc' := 62) (ls' := [some (.ref 0), some (.long n), none, some (.int (-8))]) (st' := []) rfl rfl ?_
  refine wp_s (i := .goto (-40)) (n := 3) (pc' := 22) (st' := []) rfl rfl ?_
  refine wp_s (i := .iload_n 3) (n := 1) (pc' := 23) (st' := [.int (-8)]) rfl rfl ?_
  refine wp_s (i := .ifCond .lt 42) (n := 3) (pc' := 65) (st' := []) rfl rfl ?_
  refine wp_s (i := .aload_n 0) (n := 1) (pc' := 66) (st' := [.ref 0]) rfl rfl ?_
  refine wp_gf (idx := 20) (a := 0) (v := .ref 2) (pc' := 69) rfl rfl (mm_sn rfl (mm_sn rfl hb_0)) rfl rfl ?_
  refine wp_gf (idx := 70) (a := 2) (v := .int 8) (pc' := 72) rfl rfl (mm_ss (mm_sn rfl hb_2)) rfl rfl ?_
  refine wp_r (i := .ireturn) (n := 1) (v := some (.int 8)) rfl rfl ?_
  refine ⟨8, rfl, ⟨_, (mm_sn rfl (mm_sn rfl hb_114))⟩, ?_⟩
  show mm_Wp X 12 mm_r121 0 [some (.ref 114), some (.long n), none, none] [] _ _
  refine wp_s (i := .aload_n 0) (n := 1) (pc' := 1) (st' := [.ref 114]) rfl rfl ?_
  refine wp_gf (idx := 77) (a := 114) (v := .int 0) (pc' := 4) rfl rfl (mm_sn rfl (mm_sn rfl hb_114)) rfl rfl ?_
  refine wp_s (i := .bipush 8) (n := 2) (pc' := 6) (st' := [.int 8, .int 0]) rfl rfl ?_
  refine wp_s (i := .iadd) (n := 1) (pc' := 7) (st' := [.int 8]) rfl rfl ?_
  refine wp_s (i := .sipush 320) (n := 3) (pc' := 10) (st' := [.int 320, .int 8]) rfl rfl ?_
  refine wp_s (i := .if_icmp .le 6) (n := 3) (pc' := 16) (st' := []) rfl rfl ?_
  refine wp_s (i := .bipush 56) (n := 2) (pc' := 18) (st' := [.int 56]) rfl rfl ?_
  refine wp_s (i := .istore_n 3) (n := 1) (pc' := 19) (ls' := [some (.ref 114), some (.long n), none, some (.int 56)]) (st' := []) rfl rfl ?_
  refine wp_s (i := .iload_n 3) (n := 1) (pc' := 20) (st' := [.int 56]) rfl rfl ?_
  refine wp_s (i := .ifCond .lt 36) (n := 3) (pc' := 23) (st' := []) rfl rfl ?_
  refine wp_s (i := .aload_n 0) (n := 1) (pc' := 24) (st' := [.ref 114]) rfl rfl ?_
  refine wp_gf (idx := 43) (a := 114) (v := .ref 126) (pc' := 27) rfl rfl (mm_sn rfl (mm_sn rfl hb_114)) rfl rfl ?_
  refine wp_s (i := .aload_n 0) (n := 1) (pc' := 28) (st' := [.ref 114, .ref 126]) rfl rfl ?_
  refine wp_gf (idx := 77) (a := 114) (v := .int 0) (pc' := 31) rfl rfl (mm_sn rfl (mm_sn rfl hb_114)) rfl rfl ?_
  refine wp_s (i := .lload_n 1) (n := 1) (pc' := 32) (st' := [.long n, .int 0, .ref 126]) rfl rfl ?_
  refine wp_s (i := .iload_n 3) (n := 1) (pc' := 33) (st' := [.int 56, .long n, .int 0, .ref 126]) rfl rfl ?_
  refine wp_s (i := .lshr) (n := 1) (pc' := 34) (st' := [.long (n >>> ((56 : Int32).toInt64 &&& 63)), .int 0, .ref 126]) rfl rfl ?_
  refine wp_s (i := .l2i) (n := 1) (pc' := 35) (st' := [.int (((n >>> ((56 : Int32).toInt64 &&& 63))).toInt32), .int 0, .ref 126]) rfl rfl ?_
  refine wp_s (i := .sipush 255) (n := 3) (pc' := 38) (st' := [.int 255, .int (((n >>> ((56 : Int32).toInt64 &&& 63))).toInt32), .int 0, .ref 126]) rfl rfl ?_
  refine wp_s (i := .iand) (n := 1) (pc' := 39) (st' := [.int (((n >>> ((56 : Int32).toInt64 &&& 63))).toInt32 &&& 255), .int 0, .ref 126]) rfl rfl ?_
  refine wp_is (l' := ((List.replicate 320 0).set 0 (((n >>> ((56 : Int32).toInt64 &&& 63))).toInt32 &&& 255))) (pc' := 40) rfl (mm_sn rfl (mm_sn rfl hb_126)) rfl rfl rfl rfl ?_
  refine wp_s (i := .aload_n 0) (n := 1) (pc' := 41) (st' := [.ref 114]) rfl rfl ?_
  refine wp_s (i := .dup) (n := 1) (pc' := 42) (st' := [.ref 114, .ref 114]) rfl rfl ?_
  refine wp_gf (idx := 77) (a := 114) (v := .int 0) (pc' := 45) rfl rfl (mm_sn rfl (mm_sn rfl (mm_sn rfl hb_114))) rfl rfl ?_
  refine wp_s (i := .iconst 1) (n := 1) (pc' := 46) (st' := [.int 1, .int 0, .ref 114]) rfl rfl ?_
  refine wp_s (i := .iadd) (n := 1) (pc' := 47) (st' := [.int 1, .ref 114]) rfl rfl ?_
  refine wp_pf (idx := 77) (a := 114) (fs' := [.ref 115, .int 0, .int 0, .int 0, .int 0, .int 0, .int 0, .ref 116, .ref 117, .ref 118, .ref 119, .ref 120, .ref 121, .ref 122, .ref 123, .ref 124, .ref 125, .int 0, .int 0, .int 0, .int 0, .ref 126, .int 1, .int 0, .int 0, .int 0, .int 0, .int 0, .int 0, .int 0, .ref 127, .ref 128, .ref 129, .ref 130, .int 0, .ref 131, .ref 132, .int 0, .int 0, .int 0, .int 0, .ref 133, .ref 134, .ref 135, .ref 136, .int 0]) (pc' := 50) rfl rfl rfl (mm_sn rfl (mm_sn rfl (mm_sn rfl hb_114))) rfl rfl rfl rfl rfl ?_
  refine wp_s (i := .iinc 3 (-8)) (n := 3) (pc' := 53) (ls' := [some (.ref 114), some (.long n), none, some (.int 48)]) (st' := []) rfl rfl ?_
  refine wp_s (i := .goto (-34)) (n := 3) (pc' := 19) (st' := []) rfl rfl ?_
  refine wp_s (i := .iload_n 3) (n := 1) (pc' := 20) (st' := [.int 48]) rfl rfl ?_
  refine wp_s (i := .ifCond .lt 36) (n := 3) (pc' := 23) (st' := []) rfl rfl ?_
  refine wp_s (i := .aload_n 0) (n := 1) (pc' := 24) (st' := [.ref 114]) rfl rfl ?_
  refine wp_gf (idx := 43) (a := 114) (v := .ref 126) (pc' := 27) rfl rfl (mm_ss (mm_sn rfl (mm_sn rfl (mm_sn rfl hb_114)))) rfl rfl ?_
  refine wp_s (i := .aload_n 0) (n := 1) (pc' := 28) (st' := [.ref 114, .ref 126]) rfl rfl ?_
  refine wp_gf (idx := 77) (a := 114) (v := .int 1) (pc' := 31) rfl rfl (mm_ss (mm_sn rfl (mm_sn rfl (mm_sn rfl hb_114)))) rfl rfl ?_
  refine wp_s (i := .lload_n 1) (n := 1) (pc' := 32) (st' := [.long n, .int 1, .ref 126]) rfl rfl ?_
  refine wp_s (i := .iload_n 3) (n := 1) (pc' := 33) (st' := [.int 48, .long n, .int 1, .ref 126]) rfl rfl ?_
  refine wp_s (i := .lshr) (n := 1) (pc' := 34) (st' := [.long (n >>> ((48 : Int32).toInt64 &&& 63)), .int 1, .ref 126]) rfl rfl ?_
  refine wp_s (i := .l2i) (n := 1) (pc' := 35) (st' := [.int (((n >>> ((48 : Int32).toInt64 &&& 63))).toInt32), .int 1, .ref 126]) rfl rfl ?_
  refine wp_s (i := .sipush 255) (n := 3) (pc' := 38) (st' := [.int 255, .int (((n >>> ((48 : Int32).toInt64 &&& 63))).toInt32), .int 1, .ref 126]) rfl rfl ?_
  refine wp_s (i := .iand) (n := 1) (pc' := 39) (st' := [.int (((n >>> ((48 : Int32).toInt64 &&& 63))).toInt32 &&& 255), .int 1, .ref 126]) rfl rfl ?_
  refine wp_is (l' := (((List.replicate 320 0).set 0 (((n >>> ((56 : Int32).toInt64 &&& 63))).toInt32 &&& 255)).set 1 (((n >>> ((48 : Int32).toInt64 &&& 63))).toInt32 &&& 255))) (pc' := 40) rfl (mm_sn rfl (mm_ss (mm_sn rfl (mm_sn rfl hb_126)))) rfl rfl (mm_rc rfl mm_rs2) rfl ?_
  refine wp_s (i := .aload_n 0) (n := 1) (pc' := 41) (st' := [.ref 114]) rfl rfl ?_
  refine wp_s (i := .dup) (n := 1) (pc' := 42) (st' := [.ref 114, .ref 114]) rfl rfl ?_
  refine wp_gf (idx := 77) (a := 114) (v := .int 1) (pc' := 45) rfl rfl (mm_ss (mm_sn rfl (mm_sn rfl (mm_sn rfl hb_114)))) rfl rfl ?_
  refine wp_s (i := .iconst 1) (n := 1) (pc' := 46) (st' := [.int 1, .int 1, .ref 114]) rfl rfl ?_
  refine wp_s (i := .iadd) (n := 1) (pc' := 47) (st' := [.int 2, .ref 114]) rfl rfl ?_
  refine wp_pf (idx := 77) (a := 114) (fs' := [.ref 115, .int 0, .int 0, .int 0, .int 0, .int 0, .int 0, .ref 116, .ref 117, .ref 118, .ref 119, .ref 120, .ref 121, .ref 122, .ref 123, .ref 124, .ref 125, .int 0, .int 0, .int 0, .int 0, .ref 126, .int 2, .int 0, .int 0, .int 0, .int 0, .int 0, .int 0, .int 0, .ref 127, .ref 128, .ref 129, .ref 130, .int 0, .ref 131, .ref 132, .int 0, .int 0, .int 0, .int 0, .ref 133, .ref 134, .ref 135, .ref 136, .int 0]) (pc' := 50) rfl rfl rfl (mm_ss (mm_sn rfl (mm_sn rfl (mm_sn rfl hb_114)))) rfl rfl rfl mm_rs2 rfl ?_
  refine wp_s (i := .iinc 3 (-8)) (n := 3) (pc' := 53) (ls' := [some (.ref 114), some (.long n), none, some (.int 40)]) (st' := []) rfl rfl ?_
  refine wp_s (i := .goto (-34)) (n := 3) (pc' := 19) (st' := []) rfl rfl ?_
  refine wp_s (i := .iload_n 3) (n := 1) (pc' := 20) (st' := [.int 40]) rfl rfl ?_
  refine wp_s (i := .ifCond .lt 36) (n := 3) (pc' := 23) (st' := []) rfl rfl ?_
  refine wp_s (i := .aload_n 0) (n := 1) (pc' := 24) (st' := [.ref 114]) rfl rfl ?_
  refine wp_gf (idx := 43) (a := 114) (v := .ref 126) (pc' := 27) rfl rfl (mm_ss (mm_sn rfl (mm_sn rfl (mm_sn rfl hb_114)))) rfl rfl ?_
  refine wp_s (i := .aload_n 0) (n := 1) (pc' := 28) (st' := [.ref 114, .ref 126]) rfl rfl ?_
  refine wp_gf (idx := 77) (a := 114) (v := .int 2) (pc' := 31) rfl rfl (mm_ss (mm_sn rfl (mm_sn rfl (mm_sn rfl hb_114)))) rfl rfl ?_
  refine wp_s (i := .lload_n 1) (n := 1) (pc' := 32) (st' := [.long n, .int 2, .ref 126]) rfl rfl ?_
  refine wp_s (i := .iload_n 3) (n := 1) (pc' := 33) (st' := [.int 40, .long n, .int 2, .ref 126]) rfl rfl ?_
  refine wp_s (i := .lshr) (n := 1) (pc' := 34) (st' := [.long (n >>> ((40 : Int32).toInt64 &&& 63)), .int 2, .ref 126]) rfl rfl ?_
  refine wp_s (i := .l2i) (n := 1) (pc' := 35) (st' := [.int (((n >>> ((40 : Int32).toInt64 &&& 63))).toInt32), .int 2, .ref 126]) rfl rfl ?_
  refine wp_s (i := .sipush 255) (n := 3) (pc' := 38) (st' := [.int 255, .int (((n >>> ((40 : Int32).toInt64 &&& 63))).toInt32), .int 2, .ref 126]) rfl rfl ?_
  refine wp_s (i := .iand) (n := 1) (pc' := 39) (st' := [.int (((n >>> ((40 : Int32).toInt64 &&& 63))).toInt32 &&& 255), .int 2, .ref 126]) rfl rfl ?_
  refine wp_is (l' := ((((List.replicate 320 0).set 0 (((n >>> ((56 : Int32).toInt64 &&& 63))).toInt32 &&& 255)).set 1 (((n >>> ((48 : Int32).toInt64 &&& 63))).toInt32 &&& 255)).set 2 (((n >>> ((40 : Int32).toInt64 &&& 63))).toInt32 &&& 255))) (pc' := 40) rfl (mm_sn rfl (mm_ss (mm_sn rfl (mm_sn rfl hb_126)))) rfl rfl (mm_rc rfl mm_rs2) rfl ?_
  refine wp_s (i := .aload_n 0) (n := 1) (pc' := 41) (st' := [.ref 114]) rfl rfl ?_
  refine wp_s (i := .dup) (n := 1) (pc' := 42) (st' := [.ref 114, .ref 114]) rfl rfl ?_
  refine wp_gf (idx := 77) (a := 114) (v := .int 2) (pc' := 45) rfl rfl (mm_ss (mm_sn rfl (mm_sn rfl (mm_sn rfl hb_114)))) rfl rfl ?_
  refine wp_s (i := .iconst 1) (n := 1) (pc' := 46) (st' := [.int 1, .int 2, .ref 114]) rfl rfl ?_
  refine wp_s (i := .iadd) (n := 1) (pc' := 47) (st' := [.int 3, .ref 114]) rfl rfl ?_
  refine wp_pf (idx := 77) (a := 114) (fs' := [.ref 115, .int 0, .int 0, .int 0, .int 0, .int 0, .int 0, .ref 116, .ref 117, .ref 118, .ref 119, .ref 120, .ref 121, .ref 122, .ref 123, .ref 124, .ref 125, .int 0, .int 0, .int 0, .int 0, .ref 126, .int 3, .int 0, .int 0, .int 0, .int 0, .int 0, .int 0, .int 0, .ref 127, .ref 128, .ref 129, .ref 130, .int 0, .ref 131, .ref 132, .int 0, .int 0, .int 0, .int 0, .ref 133, .ref 134, .ref 135, .ref 136, .int 0]) (pc' := 50) rfl rfl rfl (mm_ss (mm_sn rfl (mm_sn rfl (mm_sn rfl hb_114)))) rfl rfl rfl mm_rs2 rfl ?_
  refine wp_s (i := .iinc 3 (-8)) (n := 3) (pc' := 53) (ls' := [some (.ref 114), some (.long n), none, some (.int 32)]) (st' := []) rfl rfl ?_
  refine wp_s (i := .goto (-34)) (n := 3) (pc' := 19) (st' := []) rfl rfl ?_
  refine wp_s (i := .iload_n 3) (n := 1) (pc' := 20) (st' := [.int 32]) rfl rfl ?_
  refine wp_s (i := .ifCond .lt 36) (n := 3) (pc' := 23) (st' := []) rfl rfl ?_
  refine wp_s (i := .aload_n 0) (n := 1) (pc' := 24) (st' := [.ref 114]) rfl rfl ?_
  refine wp_gf (idx := 43) (a := 114) (v := .ref 126) (pc' := 27) rfl rfl (mm_ss (mm_sn rfl (mm_sn rfl (mm_sn rfl hb_114)))) rfl rfl ?_
  refine wp_s (i := .aload_n 0) (n := 1) (pc' := 28) (st' := [.ref 114, .ref 126]) rfl rfl ?_
  refine wp_gf (idx := 77) (a := 114) (v := .int 3) (pc' := 31) rfl rfl (mm_ss (mm_sn rfl (mm_sn rfl (mm_sn rfl hb_114)))) rfl rfl ?_
  refine wp_s (i := .lload_n 1) (n := 1) (pc' := 32) (st' := [.long n, .int 3, .ref 126]) rfl rfl ?_
  refine wp_s (i := .iload_n 3) (n := 1) (pc' := 33) (st' := [.int 32, .long n, .int 3, .ref 126]) rfl rfl ?_
  refine wp_s (i := .lshr) (n := 1) (pc' := 34) (st' := [.long (n >>> ((32 : Int32).toInt64 &&& 63)), .int 3, .ref 126]) rfl rfl ?_
  refine wp_s (i := .l2i) (n := 1) (pc' := 35) (st' := [.int (((n >>> ((32 : Int32).toInt64 &&& 63))).toInt32), .int 3, .ref 126]) rfl rfl ?_
  refine wp_s (i := .sipush 255) (n := 3) (pc' := 38) (st' := [.int 255, .int (((n >>> ((32 : Int32).toInt64 &&& 63))).toInt32), .int 3, .ref 126]) rfl rfl ?_
  refine wp_s (i := .iand) (n := 1) (pc' := 39) (st' := [.int (((n >>> ((32 : Int32).toInt64 &&& 63))).toInt32 &&& 255), .int 3, .ref 126]) rfl rfl ?_
  refine wp_is (l' := (((((List.replicate 320 0).set 0 (((n >>> ((56 : Int32).toInt64 &&& 63))).toInt32 &&& 255)).set 1 (((n >>> ((48 : Int32).toInt64 &&& 63))).toInt32 &&& 255)).set 2 (((n >>> ((40 : Int32).toInt64 &&& 63))).toInt32 &&& 255)).set 3 (((n >>> ((32 : Int32).toInt64 &&& 63))).toInt32 &&& 255))) (pc' := 40) rfl (mm_sn rfl (mm_ss (mm_sn rfl (mm_sn rfl hb_126)))) rfl rfl (mm_rc rfl mm_rs2) rfl ?_
  refine wp_s (i := .aload_n 0) (n := 1) (pc' := 41) (st' := [.ref 114]) rfl rfl ?_
  refine wp_s (i := .dup) (n := 1) (pc' := 42) (st' := [.ref 114, .ref 114]) rfl rfl ?_
  refine wp_gf (idx := 77) (a := 114) (v := .int 3) (pc' := 45) rfl rfl (mm_ss (mm_sn rfl (mm_sn rfl (mm_sn rfl hb_114)))) rfl rfl ?_
  refine wp_s (i := .iconst 1) (n := 1) (pc' := 46) (st' := [.int 1, .int 3, .ref 114]) rfl rfl ?_
  refine wp_s (i := .iadd) (n := 1) (pc' := 47) (st' := [.int 4, .ref 114]) rfl rfl ?_
  refine wp_pf (idx := 77) (a := 114) (fs' := [.ref 115, .int 0, .int 0, .int 0, .int 0, .int 0, .int 0, .ref 116, .ref 117, .ref 118, .ref 119, .ref 120, .ref 121, .ref 122, .ref 123, .ref 124, .ref 125, .int 0, .int 0, .int 0, .int 0, .ref 126, .int 4, .int 0, .int 0, .int 0, .int 0, .int 0, .int 0, .int 0, .ref 127, .ref 128, .ref 129, .ref 130, .int 0, .ref 131, .ref 132, .int 0, .int 0, .int 0, .int 0, .ref 133, .ref 134, .ref 135, .ref 136, .int 0]) (pc' := 50) rfl rfl rfl (mm_ss (mm_sn rfl (mm_sn rfl (mm_sn rfl hb_114)))) rfl rfl rfl mm_rs2 rfl ?_
  refine wp_s (i := .iinc 3 (-8)) (n := 3) (pc' := 53) (ls' := [some (.ref 114), some (.long n), none, some (.int 24)]) (st' := []) rfl rfl ?_
  refine wp_s (i := .goto (-34)) (n := 3) (pc' := 19) (st' := []) rfl rfl ?_
  refine wp_s (i := .iload_n 3) (n := 1) (pc' := 20) (st' := [.int 24]) rfl rfl ?_
  refine wp_s (i := .ifCond .lt 36) (n := 3) (pc' := 23) (st' := []) rfl rfl ?_
  refine wp_s (i := .aload_n 0) (n := 1) (pc' := 24) (st' := [.ref 114]) rfl rfl ?_
  refine wp_gf (idx := 43) (a := 114) (v := .ref 126) (pc' := 27) rfl rfl (mm_ss (mm_sn rfl (mm_sn rfl (mm_sn rfl hb_114)))) rfl rfl ?_
  refine wp_s (i := .aload_n 0) (n := 1) (pc' := 28) (st' := [.ref 114, .ref 126]) rfl rfl ?_
  refine wp_gf (idx := 77) (a := 114) (v := .int 4) (pc' := 31) rfl rfl (mm_ss (mm_sn rfl (mm_sn rfl (mm_sn rfl hb_114)))) rfl rfl ?_
  refine wp_s (i := .lload_n 1) (n := 1) (pc' := 32) (st' := [.long n, .int 4, .ref 126]) rfl rfl ?_
  refine wp_s (i := .iload_n 3) (n := 1) (pc' := 33) (st' := [.int 24, .long n, .int 4, .ref 126]) rfl rfl ?_
  refine wp_s (i := .lshr) (n := 1) (pc' := 34) (st' := [.long (n >>> ((24 : Int32).toInt64 &&& 63)), .int 4, .ref 126]) rfl rfl ?_
  refine wp_s (i := .l2i) (n := 1) (pc' := 35) (st' := [.int (((n >>> ((24 : Int32).toInt64 &&& 63))).toInt32), .int 4, .ref 126]) rfl rfl ?_
  refine wp_s (i := .sipush 255) (n := 3) (pc' := 38) (st' := [.int 255, .int (((n >>> ((24 : Int32).toInt64 &&& 63))).toInt32), .int 4, .ref 126]) rfl rfl ?_
  refine wp_s (i := .iand) (n := 1) (pc' := 39) (st' := [.int (((n >>> ((24 : Int32).toInt64 &&& 63))).toInt32 &&& 255), .int 4, .ref 126]) rfl rfl ?_
  refine wp_is (l' := ((((((List.replicate 320 0).set 0 (((n >>> ((56 : Int32).toInt64 &&& 63))).toInt32 &&& 255)).set 1 (((n >>> ((48 : Int32).toInt64 &&& 63))).toInt32 &&& 255)).set 2 (((n >>> ((40 : Int32).toInt64 &&& 63))).toInt32 &&& 255)).set 3 (((n >>> ((32 : Int32).toInt64 &&& 63))).toInt32 &&& 255)).set 4 (((n >>> ((24 : Int32).toInt64 &&& 63))).toInt32 &&& 255))) (pc' := 40) rfl (mm_sn rfl (mm_ss (mm_sn rfl (mm_sn rfl hb_126)))) rfl rfl (mm_rc rfl mm_rs2) rfl ?_
  refine wp_s (i := .aload_n 0) (n := 1) (pc' := 41) (st' := [.ref 114]) rfl rfl ?_
  refine wp_s (i := .dup) (n := 1) (pc' := 42) (st' := [.ref 114, .ref 114]) rfl rfl ?_
  refine wp_gf (idx := 77) (a := 114) (v := .int 4) (pc' := 45) rfl rfl (mm_ss (mm_sn rfl (mm_sn rfl (mm_sn rfl hb_114)))) rfl rfl ?_
  refine wp_s (i := .iconst 1) (n := 1) (pc' := 46) (st' := [.int 1, .int 4, .ref 114]) rfl rfl ?_
  refine wp_s (i := .iadd) (n := 1) (pc' := 47) (st' := [.int 5, .ref 114]) rfl rfl ?_
  refine wp_pf (idx := 77) (a := 114) (fs' := [.ref 115, .int 0, .int 0, .int 0, .int 0, .int 0, .int 0, .ref 116, .ref 117, .ref 118, .ref 119, .ref 120, .ref 121, .ref 122, .ref 123, .ref 124, .ref 125, .int 0, .int 0, .int 0, .int 0, .ref 126, .int 5, .int 0, .int 0, .int 0, .int 0, .int 0, .int 0, .int 0, .ref 127, .ref 128, .ref 129, .ref 130, .int 0, .ref 131, .ref 132, .int 0, .int 0, .int 0, .int 0, .ref 133, .ref 134, .ref 135, .ref 136, .int 0]) (pc' := 50) rfl rfl rfl (mm_ss (mm_sn rfl (mm_sn rfl (mm_sn rfl hb_114)))) rfl rfl rfl mm_rs2 rfl ?_
  refine wp_s (i := .iinc 3 (-8)) (n := 3) (pc' := 53) (ls' := [some (.ref 114), some (.long n), none, some (.int 16)]) (st' := []) rfl rfl ?_
  refine wp_s (i := .goto (-34)) (n := 3) (pc' := 19) (st' := []) rfl rfl ?_
  refine wp_s (i := .iload_n 3) (n := 1) (pc' := 20) (st' := [.int 16]) rfl rfl ?_
  refine wp_s (i := .ifCond .lt 36) (n := 3) (pc' := 23) (st' := []) rfl rfl ?_
  refine wp_s (i := .aload_n 0) (n := 1) (pc' := 24) (st' := [.ref 114]) rfl rfl ?_
  refine wp_gf (idx := 43) (a := 114) (v := .ref 126) (pc' := 27) rfl rfl (mm_ss (mm_sn rfl (mm_sn rfl (mm_sn rfl hb_114)))) rfl rfl ?_
  refine wp_s (i := .aload_n 0) (n := 1) (pc' := 28) (st' := [.ref 114, .ref 126]) rfl rfl ?_
  refine wp_gf (idx := 77) (a := 114) (v := .int 5) (pc' := 31) rfl rfl (mm_ss (mm_sn rfl (mm_sn rfl (mm_sn rfl hb_114)))) rfl rfl ?_
  refine wp_s (i := .lload_n 1) (n := 1) (pc' := 32) (st' := [.long n, .int 5, .ref 126]) rfl rfl ?_
  refine wp_s (i := .iload_n 3) (n := 1) (pc' := 33) (st' := [.int 16, .long n, .int 5, .ref 126]) rfl rfl ?_
  refine wp_s (i := .lshr) (n := 1) (pc' := 34) (st' := [.long (n >>> ((16 : Int32).toInt64 &&& 63)), .int 5, .ref 126]) rfl rfl ?_
  refine wp_s (i := .l2i) (n := 1) (pc' := 35) (st' := [.int (((n >>> ((16 : Int32).toInt64 &&& 63))).toInt32), .int 5, .ref 126]) rfl rfl ?_
  refine wp_s (i := .sipush 255) (n := 3) (pc' := 38) (st' := [.int 255, .int (((n >>> ((16 : Int32).toInt64 &&& 63))).toInt32), .int 5, .ref 126]) rfl rfl ?_
  refine wp_s (i := .iand) (n := 1) (pc' := 39) (st' := [.int (((n >>> ((16 : Int32).toInt64 &&& 63))).toInt32 &&& 255), .int 5, .ref 126]) rfl rfl ?_
  refine wp_is (l' := (((((((List.replicate 320 0).set 0 (((n >>> ((56 : Int32).toInt64 &&& 63))).toInt32 &&& 255)).set 1 (((n >>> ((48 : Int32).toInt64 &&& 63))).toInt32 &&& 255)).set 2 (((n >>> ((40 : Int32).toInt64 &&& 63))).toInt32 &&& 255)).set 3 (((n >>> ((32 : Int32).toInt64 &&& 63))).toInt32 &&& 255)).set 4 (((n >>> ((24 : Int32).toInt64 &&& 63))).toInt32 &&& 255)).set 5 (((n >>> ((16 : Int32).toInt64 &&& 63))).toInt32 &&& 255))) (pc' := 40) rfl (mm_sn rfl (mm_ss (mm_sn rfl (mm_sn rfl hb_126)))) rfl rfl (mm_rc rfl mm_rs2) rfl ?_
  refine wp_s (i := .aload_n 0) (n := 1) (pc' := 41) (st' := [.ref 114]) rfl rfl ?_
  refine wp_s (i := .dup) (n := 1) (pc' := 42) (st' := [.ref 114, .ref 114]) rfl rfl ?_
  refine wp_gf (idx := 77) (a := 114) (v := .int 5) (pc' := 45) rfl rfl (mm_ss (mm_sn rfl (mm_sn rfl (mm_sn rfl hb_114)))) rfl rfl ?_
  refine wp_s (i := .iconst 1) (n := 1) (pc' := 46) (st' := [.int 1, .int 5, .ref 114]) rfl rfl ?_
  refine wp_s (i := .iadd) (n := 1) (pc' := 47) (st' := [.int 6, .ref 114]) rfl rfl ?_
  refine wp_pf (idx := 77) (a := 114) (fs' := [.ref 115, .int 0, .int 0, .int 0, .int 0, .int 0, .int 0, .ref 116, .ref 117, .ref 118, .ref 119, .ref 120, .ref 121, .ref 122, .ref 123, .ref 124, .ref 125, .int 0, .int 0, .int 0, .int 0, .ref 126, .int 6, .int 0, .int 0, .int 0, .int 0, .int 0, .int 0, .int 0, .ref 127, .ref 128, .ref 129, .ref 130, .int 0, .ref 131, .ref 132, .int 0, .int 0, .int 0, .int 0, .ref 133, .ref 134, .ref 135, .ref 136, .int 0]) (pc' := 50) rfl rfl rfl (mm_ss (mm_sn rfl (mm_sn rfl (mm_sn rfl hb_114)))) rfl rfl rfl mm_rs2 rfl ?_
  refine wp_s (i := .iinc 3 (-8)) (n := 3) (pc' := 53) (ls' := [some (.ref 114), some (.long n), none, some (.int 8)]) (st' := []) rfl rfl ?_
  refine wp_s (i := .goto (-34)) (n := 3) (pc' := 19) (st' := []) rfl rfl ?_
  refine wp_s (i := .iload_n 3) (n := 1) (pc' := 20) (st' := [.int 8]) rfl rfl ?_
  refine wp_s (i := .ifCond .lt 36) (n := 3) (pc' := 23) (st' := []) rfl rfl ?_
  refine wp_s (i := .aload_n 0) (n := 1) (pc' := 24) (st' := [.ref 114]) rfl rfl ?_
  refine wp_gf (idx := 43) (a := 114) (v := .ref 126) (pc' := 27) rfl rfl (mm_ss (mm_sn rfl (mm_sn rfl (mm_sn rfl hb_114)))) rfl rfl ?_
  refine wp_s (i := .aload_n 0) (n := 1) (pc' := 28) (st' := [.ref 114, .ref 126]) rfl rfl ?_
  refine wp_gf (idx := 77) (a := 114) (v := .int 6) (pc' := 31) rfl rfl (mm_ss (mm_sn rfl (mm_sn rfl (mm_sn rfl hb_114)))) rfl rfl ?_
  refine wp_s (i := .lload_n 1) (n := 1) (pc' := 32) (st' := [.long n, .int 6, .ref 126]) rfl rfl ?_
  refine wp_s (i := .iload_n 3) (n := 1) (pc' := 33) (st' := [.int 8, .long n, .int 6, .ref 126]) rfl rfl ?_
  refine wp_s (i := .lshr) (n := 1) (pc' := 34) (st' := [.long (n >>> ((8 : Int32).toInt64 &&& 63)), .int 6, .ref 126]) rfl rfl ?_
  refine wp_s (i := .l2i) (n := 1) (pc' := 35) (st' := [.int (((n >>> ((8 : Int32).toInt64 &&& 63))).toInt32), .int 6, .ref 126]) rfl rfl ?_
  refine wp_s (i := .sipush 255) (n := 3) (pc' := 38) (st' := [.int 255, .int (((n >>> ((8 : Int32).toInt64 &&& 63))).toInt32), .int 6, .ref 126]) rfl rfl ?_
  refine wp_s (i := .iand) (n := 1) (pc' := 39) (st' := [.int (((n >>> ((8 : Int32).toInt64 &&& 63))).toInt32 &&& 255), .int 6, .ref 126]) rfl rfl ?_
  refine wp_is (l' := ((((((((List.replicate 320 0).set 0 (((n >>> ((56 : Int32).toInt64 &&& 63))).toInt32 &&& 255)).set 1 (((n >>> ((48 : Int32).toInt64 &&& 63))).toInt32 &&& 255)).set 2 (((n >>> ((40 : Int32).toInt64 &&& 63))).toInt32 &&& 255)).set 3 (((n >>> ((32 : Int32).toInt64 &&& 63))).toInt32 &&& 255)).set 4 (((n >>> ((24 : Int32).toInt64 &&& 63))).toInt32 &&& 255)).set 5 (((n >>> ((16 : Int32).toInt64 &&& 63))).toInt32 &&& 255)).set 6 (((n >>> ((8 : Int32).toInt64 &&& 63))).toInt32 &&& 255))) (pc' := 40) rfl (mm_sn rfl (mm_ss (mm_sn rfl (mm_sn rfl hb_126)))) rfl rfl (mm_rc rfl mm_rs2) rfl ?_
  refine wp_s (i := .aload_n 0) (n := 1) (pc' := 41) (st' := [.ref 114]) rfl rfl ?_
  refine wp_s (i := .dup) (n := 1) (pc' := 42) (st' := [.ref 114, .ref 114]) rfl rfl ?_
  refine wp_gf (idx := 77) (a := 114) (v := .int 6) (pc' := 45) rfl rfl (mm_ss (mm_sn rfl (mm_sn rfl (mm_sn rfl hb_114)))) rfl rfl ?_
  refine wp_s (i := .iconst 1) (n := 1) (pc' := 46) (st' := [.int 1, .int 6, .ref 114]) rfl rfl ?_
  refine wp_s (i := .iadd) (n := 1) (pc' := 47) (st' := [.int 7, .ref 114]) rfl rfl ?_
  refine wp_pf (idx := 77) (a := 114) (fs' := [.ref 115, .int 0, .int 0, .int 0, .int 0, .int 0, .int 0, .ref 116, .ref 117, .ref 118, .ref 119, .ref 120, .ref 121, .ref 122, .ref 123, .ref 124, .ref 125, .int 0, .int 0, .int 0, .int 0, .ref 126, .int 7, .int 0, .int 0, .int 0, .int 0, .int 0, .int 0, .int 0, .ref 127, .ref 128, .ref 129, .ref 130, .int 0, .ref 131, .ref 132, .int 0, .int 0, .int 0, .int 0, .ref 133, .ref 134, .ref 135, .ref 136, .int 0]) (pc' := 50) rfl rfl rfl (mm_ss (mm_sn rfl (mm_sn rfl (mm_sn rfl hb_114)))) rfl rfl rfl mm_rs2 rfl ?_
  refine wp_s (i := .iinc 3 (-8)) (n := 3) (pc' := 53) (ls' := [some (.ref 114), some (.long n), none, some (.int 0)]) (st' := []) rfl rfl ?_
  refine wp_s (i := .goto (-34)) (n := 3) (pc' := 19) (st' := []) rfl rfl ?_
  refine wp_s (i := .iload_n 3) (n := 1) (pc' := 20) (st' := [.int 0]) rfl rfl ?_
  refine wp_s (i := .ifCond .lt 36) (n := 3) (pc' := 23) (st' := []) rfl rfl ?_
  refine wp_s (i := .aload_n 0) (n := 1) (pc' := 24) (st' := [.ref 114]) rfl rfl ?_
  refine wp_gf (idx := 43) (a := 114) (v := .ref 126) (pc' := 27) rfl rfl (mm_ss (mm_sn rfl (mm_sn rfl (mm_sn rfl hb_114)))) rfl rfl ?_
  refine wp_s (i := .aload_n 0) (n := 1) (pc' := 28) (st' := [.ref 114, .ref 126]) rfl rfl ?_
  refine wp_gf (idx := 77) (a := 114) (v := .int 7) (pc' := 31) rfl rfl (mm_ss (mm_sn rfl (mm_sn rfl (mm_sn rfl hb_114)))) rfl rfl ?_
  refine wp_s (i := .lload_n 1) (n := 1) (pc' := 32) (st' := [.long n, .int 7, .ref 126]) rfl rfl ?_
  refine wp_s (i := .iload_n 3) (n := 1) (pc' := 33) (st' := [.int 0, .long n, .int 7, .ref 126]) rfl rfl ?_
  refine wp_s (i := .lshr) (n := 1) (pc' := 34) (st' := [.long (n >>> ((0 : Int32).toInt64 &&& 63)), .int 7, .ref 126]) rfl rfl ?_
  refine wp_s (i := .l2i) (n := 1) (pc' := 35) (st' := [.int (((n >>> ((0 : Int32).toInt64 &&& 63))).toInt32), .int 7, .ref 126]) rfl rfl ?_
  refine wp_s (i := .sipush 255) (n := 3) (pc' := 38) (st' := [.int 255, .int (((n >>> ((0 : Int32).toInt64 &&& 63))).toInt32), .int 7, .ref 126]) rfl rfl ?_
  refine wp_s (i := .iand) (n := 1) (pc' := 39) (st' := [.int (((n >>> ((0 : Int32).toInt64 &&& 63))).toInt32 &&& 255), .int 7, .ref 126]) rfl rfl ?_
  refine wp_is (l' := (((((((((List.replicate 320 0).set 0 (((n >>> ((56 : Int32).toInt64 &&& 63))).toInt32 &&& 255)).set 1 (((n >>> ((48 : Int32).toInt64 &&& 63))).toInt32 &&& 255)).set 2 (((n >>> ((40 : Int32).toInt64 &&& 63))).toInt32 &&& 255)).set 3 (((n >>> ((32 : Int32).toInt64 &&& 63))).toInt32 &&& 255)).set 4 (((n >>> ((24 : Int32).toInt64 &&& 63))).toInt32 &&& 255)).set 5 (((n >>> ((16 : Int32).toInt64 &&& 63))).toInt32 &&& 255)).set 6 (((n >>> ((8 : Int32).toInt64 &&& 63))).toInt32 &&& 255)).set 7 (((n >>> ((0 : Int32).toInt64 &&& 63))).toInt32 &&& 255))) (pc' := 40) rfl (mm_sn rfl (mm_ss (mm_sn rfl (mm_sn rfl hb_126)))) rfl rfl (mm_rc rfl mm_rs2) rfl ?_
  refine wp_s (i := .aload_n 0) (n := 1) (pc' := 41) (st' := [.ref 114]) rfl rfl ?_
  refine wp_s (i := .dup) (n := 1) (pc' := 42) (st' := [.ref 114, .ref 114]) rfl rfl ?_
  refine wp_gf (idx := 77) (a := 114) (v := .int 7) (pc' := 45) rfl rfl (mm_ss (mm_sn rfl (mm_sn rfl (mm_sn rfl hb_114)))) rfl rfl ?_
  refine wp_s (i := .iconst 1) (n := 1) (pc' := 46) (st' := [.int 1, .int 7, .ref 114]) rfl rfl ?_
  refine wp_s (i := .iadd) (n := 1) (pc' := 47) (st' := [.int 8, .ref 114]) rfl rfl ?_
  refine wp_pf (idx := 77) (a := 114) (fs' := [.ref 115, .int 0, .int 0, .int 0, .int 0, .int 0, .int 0, .ref 116, .ref 117, .ref 118, .ref 119, .ref 120, .ref 121, .ref 122, .ref 123, .ref 124, .ref 125, .int 0, .int 0, .int 0, .int 0, .ref 126, .int 8, .int 0, .int 0, .int 0, .int 0, .int 0, .int 0, .int 0, .ref 127, .ref 128, .ref 129, .ref 130, .int 0, .ref 131, .ref 132, .int 0, .int 0, .int 0, .int 0, .ref 133, .ref 134, .ref 135, .ref 136, .int 0]) (pc' := 50) rfl rfl rfl (mm_ss (mm_sn rfl (mm_sn rfl (mm_sn rfl hb_114)))) rfl rfl rfl mm_rs2 rfl ?_
  refine wp_s (i := .iinc 3 (-8)) (n := 3) (pc' := 53) (ls' := [some (.ref 114), some (.long n), none, some (.int (-8))]) (st' := []) rfl rfl ?_
  refine wp_s (i := .goto (-34)) (n := 3) (pc' := 19) (st' := []) rfl rfl ?_
  refine wp_s (i := .iload_n 3) (n := 1) (pc' := 20) (st' := [.int (-8)]) rfl rfl ?_
  refine wp_s (i := .ifCond .lt 36) (n := 3) (pc' := 56) (st' := []) rfl rfl ?_
  refine wp_s (i := .aload_n 0) (n := 1) (pc' := 57) (st' := [.ref 114]) rfl rfl ?_
  refine wp_gf (idx := 77) (a := 114) (v := .int 8) (pc' := 60) rfl rfl (mm_ss (mm_sn rfl (mm_sn rfl (mm_sn rfl hb_114)))) rfl rfl ?_
  refine wp_r (i := .ireturn) (n := 1) (v := some (.int 8)) rfl rfl ?_
  exact ⟨rfl, (pk_okS (pk_okS (pk_okS (pk_okS pk_ok0 hb_3 rfl) (mm_sn rfl hb_2) rfl) (mm_sn rfl (mm_sn rfl hb_126)) rfl) (mm_sn rfl (mm_sn rfl (mm_sn rfl hb_114))) rfl)⟩
set_option maxRecDepth 20000 in
set_option maxHeartbeats 4000000 in
theorem pk_1_0 (X : Option (List Int32))  : mm_Wp X 12 mm_r65 0 [some (.ref 0), some (.int 0), none] [] hp_0 (fun v1 h1 => ∃ x : Int32, v1 = some (.int x) ∧ (∃ fs, h1[114]? = some (.inr (10, fs))) ∧ mm_Wp X 12 mm_r122 0 [some (.ref 114), some (.int 0), none] [] h1 (fun v2 h2 => v2 = some (.int x) ∧ pk_ok h2)) := by
  refine wp_x 22 (v := some (.int 0)) (h' := hp_0) (mm_dec (by decide +kernel)) ?_
  refine ⟨0, rfl, ⟨_, hb_114⟩, ?_⟩
  show mm_Wp X 12 mm_r122 0 [some (.ref 114), some (.int 0), none] [] _ _
  refine wp_x 32 (v := some (.int 0)) (h' := hp_0) (mm_dec (by decide +kernel)) ?_
  exact ⟨rfl, pk_ok0⟩
set_option maxRecDepth 20000 in
set_option maxHeartbeats 4000000 in
theorem pk_1_o (X : Option (List Int32)) (n : Int32) (he0 : ¬ n = 0) : mm_Wp X 12 mm_r65 0 [some (.ref 0), some (.int n), none] [] hp_0 (fun v1 h1 => ∃ x : Int32, v1 = some (.int x) ∧ (∃ fs, h1[114]? = some (.inr (10, fs))) ∧ mm_Wp X 12 mm_r122 0 [some (.ref 114), some (.int n), none] [] h1 (fun v2 h2 => v2 = some (.int x) ∧ pk_ok h2)) := by
  have hf0 : n.toInt ≠ 0 := fun q => he0 (Int32.toInt_inj.mp (by rw [q]; rfl))
  refine wp_s (i := .iload_n 1) (n := 1) (pc' := 1) (st' := [.int n]) rfl rfl ?_
  refine wp_if (t := 15) (st := []) rfl rfl (fun hc1 => ?_) (fun hc1 => ?_)
  · skip
    have q1 : (n).toInt < 0 := by have := mc_t_lt hc1; simpa using this
    show mm_Wp _ _ _ 15 _ _ _ _
    refine wp_s (i := .iconst (-1)) (n := 1) (pc' := 16) (st' := [.int (-1)]) rfl rfl ?_
    refine wp_r (i := .ireturn) (n := 1) (v := some (.int (-1))) rfl rfl ?_
    refine ⟨(-1), rfl, ⟨_, hb_114⟩, ?_⟩
    show mm_Wp X 12 mm_r122 0 [some (.ref 114), some (.int n), none] [] _ _
    refine wp_s (i := .iload_n 1) (n := 1) (pc' := 1) (st' := [.int n]) rfl rfl ?_
    refine wp_s (i := .i2l) (n := 1) (pc' := 2) (st' := [.long ((n).toInt64)]) rfl rfl ?_
    refine wp_s (i := .lconst 0) (n := 1) (pc' := 3) (st' := [.long 0, .long ((n).toInt64)]) rfl rfl ?_
    refine wp_s (i := .aload_n 0) (n := 1) (pc' := 4) (st' := [.ref 114, .long 0, .long ((n).toInt64)]) rfl rfl ?_
    refine wp_gf (idx := 77) (a := 114) (v := .int 0) (pc' := 7) rfl rfl hb_114 rfl rfl ?_
    refine wp_s (i := .i2l) (n := 1) (pc' := 8) (st' := [.long 0, .long 0, .long ((n).toInt64)]) rfl rfl ?_
    refine wp_c (i := .invokestatic 81) (n := 3) (Dq := 11) (r' := mm_r120) (as := [.long ((n).toInt64), .long 0, .long 0]) (rest := []) (ls' := [some (.long ((n).toInt64)), none, some (.long 0), none, some (.long 0), none]) rfl rfl rfl ?_
    refine wp_s (i := .lload_n 0) (n := 1) (pc' := 1) (st' := [.long ((n).toInt64)]) rfl rfl ?_
    refine wp_s (i := .lload_n 2) (n := 1) (pc' := 2) (st' := [.long 0, .long ((n).toInt64)]) rfl rfl ?_
    refine wp_s (i := .lcmp) (n := 1) (pc' := 3) (st' := [.int (lg_cmp ((n).toInt64) 0)]) rfl rfl ?_
    refine wp_if (t := 17) (st := []) rfl rfl (fun hc2 => ?_) (fun hc2 => ?_)
    · skip
      have q2 : (n).toInt < 0 := by have := lc_t_lt hc2; simpa using this
      show mm_Wp _ _ _ 17 _ _ _ _
      refine wp_s (i := .iconst 0) (n := 1) (pc' := 18) (st' := [.int 0]) rfl rfl ?_
      refine wp_r (i := .ireturn) (n := 1) (v := some (.int 0)) rfl rfl ?_
      show mm_Wp X 12 mm_r122 11 [some (.ref 114), some (.int n), none] [.int 0] _ _
      refine wp_s (i := .ifCond .ne 5) (n := 3) (pc' := 14) (st' := []) rfl rfl ?_
      refine wp_s (i := .iconst (-1)) (n := 1) (pc' := 15) (st' := [.int (-1)]) rfl rfl ?_
      refine wp_r (i := .ireturn) (n := 1) (v := some (.int (-1))) rfl rfl ?_
      exact ⟨rfl, pk_ok0⟩
    · skip
      have q2 : (n).toInt ≥ 0 := by have := lc_f_lt hc2; simpa using this
      exfalso; omega
  · skip
    have q1 : (n).toInt ≥ 0 := by have := mc_f_lt hc1; simpa using this
    show mm_Wp _ _ _ 4 _ _ _ _
    refine wp_s (i := .iload_n 1) (n := 1) (pc' := 5) (st' := [.int n]) rfl rfl ?_
    refine wp_s (i := .aload_n 0) (n := 1) (pc' := 6) (st' := [.ref 0, .int n]) rfl rfl ?_
    refine wp_gf (idx := 20) (a := 0) (v := .ref 2) (pc' := 9) rfl rfl hb_0 rfl rfl ?_
    refine wp_gf (idx := 70) (a := 2) (v := .int 0) (pc' := 12) rfl rfl hb_2 rfl rfl ?_
    refine wp_ic (t := 17) (st := []) rfl rfl (fun hc3 => ?_) (fun hc3 => ?_)
    · skip
      have q3 : (n).toInt ≤ 0 := by have := mc_t_le hc3; simpa using this
      exfalso; omega
    · skip
      have q3 : (n).toInt > 0 := by have := mc_f_le hc3; simpa using this
      show mm_Wp _ _ _ 15 _ _ _ _
      refine wp_s (i := .iconst (-1)) (n := 1) (pc' := 16) (st' := [.int (-1)]) rfl rfl ?_
      refine wp_r (i := .ireturn) (n := 1) (v := some (.int (-1))) rfl rfl ?_
      refine ⟨(-1), rfl, ⟨_, hb_114⟩, ?_⟩
      show mm_Wp X 12 mm_r122 0 [some (.ref 114), some (.int n), none] [] _ _
      refine wp_s (i := .iload_n 1) (n := 1) (pc' := 1) (st' := [.int n]) rfl rfl ?_
      refine wp_s (i := .i2l) (n := 1) (pc' := 2) (st' := [.long ((n).toInt64)]) rfl rfl ?_
      refine wp_s (i := .lconst 0) (n := 1) (pc' := 3) (st' := [.long 0, .long ((n).toInt64)]) rfl rfl ?_
      refine wp_s (i := .aload_n 0) (n := 1) (pc' := 4) (st' := [.ref 114, .long 0, .long ((n).toInt64)]) rfl rfl ?_
      refine wp_gf (idx := 77) (a := 114) (v := .int 0) (pc' := 7) rfl rfl hb_114 rfl rfl ?_
      refine wp_s (i := .i2l) (n := 1) (pc' := 8) (st' := [.long 0, .long 0, .long ((n).toInt64)]) rfl rfl ?_
      refine wp_c (i := .invokestatic 81) (n := 3) (Dq := 11) (r' := mm_r120) (as := [.long ((n).toInt64), .long 0, .long 0]) (rest := []) (ls' := [some (.long ((n).toInt64)), none, some (.long 0), none, some (.long 0), none]) rfl rfl rfl ?_
      refine wp_s (i := .lload_n 0) (n := 1) (pc' := 1) (st' := [.long ((n).toInt64)]) rfl rfl ?_
      refine wp_s (i := .lload_n 2) (n := 1) (pc' := 2) (st' := [.long 0, .long ((n).toInt64)]) rfl rfl ?_
      refine wp_s (i := .lcmp) (n := 1) (pc' := 3) (st' := [.int (lg_cmp ((n).toInt64) 0)]) rfl rfl ?_
      refine wp_if (t := 17) (st := []) rfl rfl (fun hc4 => ?_) (fun hc4 => ?_)
      · skip
        have q4 : (n).toInt < 0 := by have := lc_t_lt hc4; simpa using this
        exfalso; omega
      · skip
        have q4 : (n).toInt ≥ 0 := by have := lc_f_lt hc4; simpa using this
        show mm_Wp _ _ _ 6 _ _ _ _
        refine wp_s (i := .lload_n 0) (n := 1) (pc' := 7) (st' := [.long ((n).toInt64)]) rfl rfl ?_
        refine wp_s (i := .lload 4) (n := 2) (pc' := 9) (st' := [.long 0, .long ((n).toInt64)]) rfl rfl ?_
        refine wp_s (i := .lcmp) (n := 1) (pc' := 10) (st' := [.int (lg_cmp ((n).toInt64) 0)]) rfl rfl ?_
        refine wp_if (t := 17) (st := []) rfl rfl (fun hc5 => ?_) (fun hc5 => ?_)
        · skip
          have q5 : (n).toInt > 0 := by have := lc_t_gt hc5; simpa using this
          show mm_Wp _ _ _ 17 _ _ _ _
          refine wp_s (i := .iconst 0) (n := 1) (pc' := 18) (st' := [.int 0]) rfl rfl ?_
          refine wp_r (i := .ireturn) (n := 1) (v := some (.int 0)) rfl rfl ?_
          show mm_Wp X 12 mm_r122 11 [some (.ref 114), some (.int n), none] [.int 0] _ _
          refine wp_s (i := .ifCond .ne 5) (n := 3) (pc' := 14) (st' := []) rfl rfl ?_
          refine wp_s (i := .iconst (-1)) (n := 1) (pc' := 15) (st' := [.int (-1)]) rfl rfl ?_
          refine wp_r (i := .ireturn) (n := 1) (v := some (.int (-1))) rfl rfl ?_
          exact ⟨rfl, pk_ok0⟩
        · skip
          have q5 : (n).toInt ≤ 0 := by have := lc_f_gt hc5; simpa using this
          exfalso; omega
theorem pk_1 (X : Option (List Int32)) (n : Int32) : mm_Wp X 12 mm_r65 0 [some (.ref 0), some (.int n), none] [] hp_0 (fun v1 h1 => ∃ x : Int32, v1 = some (.int x) ∧ (∃ fs, h1[114]? = some (.inr (10, fs))) ∧ mm_Wp X 12 mm_r122 0 [some (.ref 114), some (.int n), none] [] h1 (fun v2 h2 => v2 = some (.int x) ∧ pk_ok h2)) := by
  by_cases he0 : n = 0
  · subst he0; exact pk_1_0 X 
  exact pk_1_o X n he0
set_option maxRecDepth 20000 in
set_option maxHeartbeats 4000000 in
theorem pk_2 (X : Option (List Int32))  : mm_Wp X 12 mm_r66 0 [some (.ref 0), none] [] hp_0 (fun v1 h1 => ∃ x : Int32, v1 = some (.int x) ∧ (∃ fs, h1[114]? = some (.inr (10, fs))) ∧ mm_Wp X 12 mm_r135 0 [some (.ref 114), none, none] [] h1 (fun v2 h2 => v2 = some (.int x) ∧ pk_ok h2)) := by
  refine wp_x 771 (v := some (.int 0)) (h' := ((hp_0.set 0 (.inr (9, [.ref 1, .ref 2, .ref 4, .ref 15, .ref 46, .ref 54, .ref 65, .ref 66, .ref 67, .int 0, .int 0]))).set 1 (.inr (5, [.ref 2, .ref 25, .ref 36, .int 0, .int 0, .int 0, .int 0, .int 0, .int 1, .int 0]))).set 16 (.inl (0, .inl [2, 2, 2, 2, 2]))) (mm_dec (by decide +kernel)) ?_
  refine ⟨0, rfl, ⟨_, (mm_sn rfl (mm_sn rfl (mm_sn rfl hb_114)))⟩, ?_⟩
  show mm_Wp X 12 mm_r135 0 [some (.ref 114), none, none] [] _ _
  refine wp_x 4953 (v := some (.int 0)) (h' := (((hp_0.set 0 (.inr (9, [.ref 1, .ref 2, .ref 4, .ref 15, .ref 46, .ref 54, .ref 65, .ref 66, .ref 67, .int 0, .int 0]))).set 1 (.inr (5, [.ref 2, .ref 25, .ref 36, .int 0, .int 0, .int 0, .int 0, .int 0, .int 1, .int 0]))).set 16 (.inl (0, .inl [2, 2, 2, 2, 2]))).set 114 (.inr (10, [.ref 115, .int 0, .int 0, .int 0, .int 0, .int 0, .int 0, .ref 116, .ref 117, .ref 118, .ref 119, .ref 120, .ref 121, .ref 122, .ref 123, .ref 124, .ref 125, .int 0, .int (-1), .int (-1), .int 0, .ref 126, .int 0, .int 0, .int 0, .int 0, .int 0, .int 0, .int 0, .int 0, .ref 127, .ref 128, .ref 129, .ref 130, .int 0, .ref 131, .ref 132, .int 0, .int 0, .int 0, .int 0, .ref 133, .ref 134, .ref 135, .ref 136, .int 0]))) (mm_dec (by decide +kernel)) ?_
  exact ⟨rfl, (pk_okS (pk_okS (pk_okS (pk_okS pk_ok0 hb_0 rfl) (mm_sn rfl hb_1) rfl) (mm_sn rfl (mm_sn rfl hb_16)) rfl) (mm_sn rfl (mm_sn rfl (mm_sn rfl hb_114))) rfl)⟩
set_option maxRecDepth 20000 in
set_option maxHeartbeats 4000000 in
theorem pk_3 (X : Option (List Int32))  : mm_Wp X 12 mm_r68 0 [some (.ref 0)] [] hp_0 (fun v1 h1 => ∃ x : Int32, v1 = some (.int x) ∧ (∃ fs, h1[114]? = some (.inr (10, fs))) ∧ mm_Wp X 12 mm_r136 0 [some (.ref 114)] [] h1 (fun v2 h2 => v2 = some (.int x) ∧ pk_ok h2)) := by
  refine wp_x 8 (v := some (.int 0)) (h' := hp_0) (mm_dec (by decide +kernel)) ?_
  refine ⟨0, rfl, ⟨_, hb_114⟩, ?_⟩
  show mm_Wp X 12 mm_r136 0 [some (.ref 114)] [] _ _
  refine wp_x 8 (v := some (.int 0)) (h' := hp_0) (mm_dec (by decide +kernel)) ?_
  exact ⟨rfl, pk_ok0⟩
set_option maxRecDepth 20000 in
set_option maxHeartbeats 4000000 in
theorem pk_4_0 (X : Option (List Int32))  : mm_Wp X 12 mm_r69 0 [some (.ref 0), some (.int 0)] [] hp_0 (fun v1 h1 => ∃ x : Int32, v1 = some (.int x) ∧ (∃ fs, h1[114]? = some (.inr (10, fs))) ∧ mm_Wp X 12 mm_r137 0 [some (.ref 114), some (.int 0)] [] h1 (fun v2 h2 => v2 = some (.int x) ∧ pk_ok h2)) := by
  refine wp_x 11 (v := some (.int 0)) (h' := hp_0) (mm_dec (by decide +kernel)) ?_
  refine ⟨0, rfl, ⟨_, hb_114⟩, ?_⟩
  show mm_Wp X 12 mm_r137 0 [some (.ref 114), some (.int 0)] [] _ _
  refine wp_x 10 (v := some (.int 0)) (h' := hp_0) (mm_dec (by decide +kernel)) ?_
  exact ⟨rfl, pk_ok0⟩
set_option maxRecDepth 20000 in
set_option maxHeartbeats 4000000 in
theorem pk_4_1 (X : Option (List Int32))  : mm_Wp X 12 mm_r69 0 [some (.ref 0), some (.int 1)] [] hp_0 (fun v1 h1 => ∃ x : Int32, v1 = some (.int x) ∧ (∃ fs, h1[114]? = some (.inr (10, fs))) ∧ mm_Wp X 12 mm_r137 0 [some (.ref 114), some (.int 1)] [] h1 (fun v2 h2 => v2 = some (.int x) ∧ pk_ok h2)) := by
  refine wp_x 11 (v := some (.int 0)) (h' := hp_0) (mm_dec (by decide +kernel)) ?_
  refine ⟨0, rfl, ⟨_, hb_114⟩, ?_⟩
  show mm_Wp X 12 mm_r137 0 [some (.ref 114), some (.int 1)] [] _ _
  refine wp_x 10 (v := some (.int 0)) (h' := hp_0) (mm_dec (by decide +kernel)) ?_
  exact ⟨rfl, pk_ok0⟩
set_option maxRecDepth 20000 in
set_option maxHeartbeats 4000000 in
theorem pk_4_2 (X : Option (List Int32))  : mm_Wp X 12 mm_r69 0 [some (.ref 0), some (.int 2)] [] hp_0 (fun v1 h1 => ∃ x : Int32, v1 = some (.int x) ∧ (∃ fs, h1[114]? = some (.inr (10, fs))) ∧ mm_Wp X 12 mm_r137 0 [some (.ref 114), some (.int 2)] [] h1 (fun v2 h2 => v2 = some (.int x) ∧ pk_ok h2)) := by
  refine wp_x 11 (v := some (.int 0)) (h' := hp_0) (mm_dec (by decide +kernel)) ?_
  refine ⟨0, rfl, ⟨_, hb_114⟩, ?_⟩
  show mm_Wp X 12 mm_r137 0 [some (.ref 114), some (.int 2)] [] _ _
  refine wp_x 10 (v := some (.int 0)) (h' := hp_0) (mm_dec (by decide +kernel)) ?_
  exact ⟨rfl, pk_ok0⟩
set_option maxRecDepth 20000 in
set_option maxHeartbeats 4000000 in
theorem pk_4_3 (X : Option (List Int32))  : mm_Wp X 12 mm_r69 0 [some (.ref 0), some (.int 3)] [] hp_0 (fun v1 h1 => ∃ x : Int32, v1 = some (.int x) ∧ (∃ fs, h1[114]? = some (.inr (10, fs))) ∧ mm_Wp X 12 mm_r137 0 [some (.ref 114), some (.int 3)] [] h1 (fun v2 h2 => v2 = some (.int x) ∧ pk_ok h2)) := by
  refine wp_x 11 (v := some (.int 0)) (h' := hp_0) (mm_dec (by decide +kernel)) ?_
  refine ⟨0, rfl, ⟨_, hb_114⟩, ?_⟩
  show mm_Wp X 12 mm_r137 0 [some (.ref 114), some (.int 3)] [] _ _
  refine wp_x 10 (v := some (.int 0)) (h' := hp_0) (mm_dec (by decide +kernel)) ?_
  exact ⟨rfl, pk_ok0⟩
set_option maxRecDepth 20000 in
set_option maxHeartbeats 4000000 in
theorem pk_4_4 (X : Option (List Int32))  : mm_Wp X 12 mm_r69 0 [some (.ref 0), some (.int 4)] [] hp_0 (fun v1 h1 => ∃ x : Int32, v1 = some (.int x) ∧ (∃ fs, h1[114]? = some (.inr (10, fs))) ∧ mm_Wp X 12 mm_r137 0 [some (.ref 114), some (.int 4)] [] h1 (fun v2 h2 => v2 = some (.int x) ∧ pk_ok h2)) := by
  refine wp_x 11 (v := some (.int 0)) (h' := hp_0) (mm_dec (by decide +kernel)) ?_
  refine ⟨0, rfl, ⟨_, hb_114⟩, ?_⟩
  show mm_Wp X 12 mm_r137 0 [some (.ref 114), some (.int 4)] [] _ _
  refine wp_x 12 (v := some (.int 0)) (h' := hp_0) (mm_dec (by decide +kernel)) ?_
  exact ⟨rfl, pk_ok0⟩
set_option maxRecDepth 20000 in
set_option maxHeartbeats 4000000 in
theorem pk_4_5 (X : Option (List Int32))  : mm_Wp X 12 mm_r69 0 [some (.ref 0), some (.int 5)] [] hp_0 (fun v1 h1 => ∃ x : Int32, v1 = some (.int x) ∧ (∃ fs, h1[114]? = some (.inr (10, fs))) ∧ mm_Wp X 12 mm_r137 0 [some (.ref 114), some (.int 5)] [] h1 (fun v2 h2 => v2 = some (.int x) ∧ pk_ok h2)) := by
  refine wp_x 11 (v := some (.int 0)) (h' := hp_0) (mm_dec (by decide +kernel)) ?_
  refine ⟨0, rfl, ⟨_, hb_114⟩, ?_⟩
  show mm_Wp X 12 mm_r137 0 [some (.ref 114), some (.int 5)] [] _ _
  refine wp_x 10 (v := some (.int 0)) (h' := hp_0) (mm_dec (by decide +kernel)) ?_
  exact ⟨rfl, pk_ok0⟩
set_option maxRecDepth 20000 in
set_option maxHeartbeats 4000000 in
theorem pk_4_6 (X : Option (List Int32))  : mm_Wp X 12 mm_r69 0 [some (.ref 0), some (.int 6)] [] hp_0 (fun v1 h1 => ∃ x : Int32, v1 = some (.int x) ∧ (∃ fs, h1[114]? = some (.inr (10, fs))) ∧ mm_Wp X 12 mm_r137 0 [some (.ref 114), some (.int 6)] [] h1 (fun v2 h2 => v2 = some (.int x) ∧ pk_ok h2)) := by
  refine wp_x 11 (v := some (.int 0)) (h' := hp_0) (mm_dec (by decide +kernel)) ?_
  refine ⟨0, rfl, ⟨_, hb_114⟩, ?_⟩
  show mm_Wp X 12 mm_r137 0 [some (.ref 114), some (.int 6)] [] _ _
  refine wp_x 10 (v := some (.int 0)) (h' := hp_0) (mm_dec (by decide +kernel)) ?_
  exact ⟨rfl, pk_ok0⟩
set_option maxRecDepth 20000 in
set_option maxHeartbeats 4000000 in
theorem pk_4_o (X : Option (List Int32)) (n : Int32) (he0 : ¬ n = 0) (he1 : ¬ n = 1) (he2 : ¬ n = 2) (he3 : ¬ n = 3) (he4 : ¬ n = 4) (he5 : ¬ n = 5) (he6 : ¬ n = 6) : mm_Wp X 12 mm_r69 0 [some (.ref 0), some (.int n)] [] hp_0 (fun v1 h1 => ∃ x : Int32, v1 = some (.int x) ∧ (∃ fs, h1[114]? = some (.inr (10, fs))) ∧ mm_Wp X 12 mm_r137 0 [some (.ref 114), some (.int n)] [] h1 (fun v2 h2 => v2 = some (.int x) ∧ pk_ok h2)) := by
  have hf0 : n.toInt ≠ 0 := fun q => he0 (Int32.toInt_inj.mp (by rw [q]; rfl))
  have hf1 : n.toInt ≠ 1 := fun q => he1 (Int32.toInt_inj.mp (by rw [q]; rfl))
  have hf2 : n.toInt ≠ 2 := fun q => he2 (Int32.toInt_inj.mp (by rw [q]; rfl))
  have hf3 : n.toInt ≠ 3 := fun q => he3 (Int32.toInt_inj.mp (by rw [q]; rfl))
  have hf4 : n.toInt ≠ 4 := fun q => he4 (Int32.toInt_inj.mp (by rw [q]; rfl))
  have hf5 : n.toInt ≠ 5 := fun q => he5 (Int32.toInt_inj.mp (by rw [q]; rfl))
  have hf6 : n.toInt ≠ 6 := fun q => he6 (Int32.toInt_inj.mp (by rw [q]; rfl))
  refine wp_s (i := .iload_n 1) (n := 1) (pc' := 1) (st' := [.int n]) rfl rfl ?_
  refine wp_ts (t := 100) (st := []) rfl (by unfold mm_sw; rw [if_pos (by omega)]; rfl) ?_
  refine wp_s (i := .iconst (-1)) (n := 1) (pc' := 101) (st' := [.int (-1)]) rfl rfl ?_
  refine wp_r (i := .ireturn) (n := 1) (v := some (.int (-1))) rfl rfl ?_
  refine ⟨(-1), rfl, ⟨_, hb_114⟩, ?_⟩
  show mm_Wp X 12 mm_r137 0 [some (.ref 114), some (.int n)] [] _ _
  refine wp_s (i := .iload_n 1) (n := 1) (pc' := 1) (st' := [.int n]) rfl rfl ?_
  refine wp_ts (t := 82) (st := []) rfl (by unfold mm_sw; rw [if_pos (by omega)]; rfl) ?_
  refine wp_s (i := .iconst (-1)) (n := 1) (pc' := 83) (st' := [.int (-1)]) rfl rfl ?_
  refine wp_r (i := .ireturn) (n := 1) (v := some (.int (-1))) rfl rfl ?_
  exact ⟨rfl, pk_ok0⟩
theorem pk_4 (X : Option (List Int32)) (n : Int32) : mm_Wp X 12 mm_r69 0 [some (.ref 0), some (.int n)] [] hp_0 (fun v1 h1 => ∃ x : Int32, v1 = some (.int x) ∧ (∃ fs, h1[114]? = some (.inr (10, fs))) ∧ mm_Wp X 12 mm_r137 0 [some (.ref 114), some (.int n)] [] h1 (fun v2 h2 => v2 = some (.int x) ∧ pk_ok h2)) := by
  by_cases he0 : n = 0
  · subst he0; exact pk_4_0 X 
  by_cases he1 : n = 1
  · subst he1; exact pk_4_1 X 
  by_cases he2 : n = 2
  · subst he2; exact pk_4_2 X 
  by_cases he3 : n = 3
  · subst he3; exact pk_4_3 X 
  by_cases he4 : n = 4
  · subst he4; exact pk_4_4 X 
  by_cases he5 : n = 5
  · subst he5; exact pk_4_5 X 
  by_cases he6 : n = 6
  · subst he6; exact pk_4_6 X 
  exact pk_4_o X n he0 he1 he2 he3 he4 he5 he6
set_option maxRecDepth 20000 in
set_option maxHeartbeats 4000000 in
theorem pk_5 (X : Option (List Int32)) (n w : Int32) : mm_Wp X 12 mm_r70 0 [some (.ref 0), some (.int n), some (.int w)] [] hp_0 (fun v1 h1 => ∃ x : Int32, v1 = some (.int x) ∧ (∃ fs, h1[114]? = some (.inr (10, fs))) ∧ mm_Wp X 12 mm_r141 0 [some (.ref 114), some (.int n), some (.int w)] [] h1 (fun v2 h2 => v2 = some (.int x) ∧ pk_ok h2)) := by
  refine wp_s (i := .aload_n 0) (n := 1) (pc' := 1) (st' := [.ref 0]) rfl rfl ?_
  refine wp_s (i := .iload_n 1) (n := 1) (pc' := 2) (st' := [.int n, .ref 0]) rfl rfl ?_
  refine wp_c (i := .invokevirtual 129) (n := 3) (Dq := 11) (r' := mm_r103) (as := [.ref 0, .int n]) (rest := []) (ls' := [some (.ref 0), some (.int n)]) rfl rfl rfl ?_
  refine wp_s (i := .iload_n 1) (n := 1) (pc' := 1) (st' := [.int n]) rfl rfl ?_
  refine wp_if (t := 19) (st := []) rfl rfl (fun hc1 => ?_) (fun hc1 => ?_)
  · skip
    have q1 : (n).toInt < 0 := by have := mc_t_lt hc1; simpa using this
    show mm_Wp _ _ _ 19 _ _ _ _
    refine wp_s (i := .iconst 0) (n := 1) (pc' := 20) (st' := [.int 0]) rfl rfl ?_
    refine wp_r (i := .ireturn) (n := 1) (v := some (.int 0)) rfl rfl ?_
    show mm_Wp X 12 mm_r70 5 [some (.ref 0), some (.int n), some (.int w)] [.int 0] _ _
    refine wp_s (i := .ifCond .ne 5) (n := 3) (pc' := 8) (st' := []) rfl rfl ?_
    refine wp_s (i := .iconst (-1)) (n := 1) (pc' := 9) (st' := [.int (-1)]) rfl rfl ?_
    refine wp_r (i := .ireturn) (n := 1) (v := some (.int (-1))) rfl rfl ?_
    refine ⟨(-1), rfl, ⟨_, hb_114⟩, ?_⟩
    show mm_Wp X 12 mm_r141 0 [some (.ref 114), some (.int n), some (.int w)] [] _ _
    refine wp_s (i := .aload_n 0) (n := 1) (pc' := 1) (st' := [.ref 114]) rfl rfl ?_
    refine wp_s (i := .iload_n 1) (n := 1) (pc' := 2) (st' := [.int n, .ref 114]) rfl rfl ?_
    refine wp_c (i := .invokevirtual 191) (n := 3) (Dq := 11) (r' := mm_r138) (as := [.ref 114, .int n]) (rest := []) (ls' := [some (.ref 114), some (.int n)]) rfl rfl rfl ?_
    refine wp_s (i := .iload_n 1) (n := 1) (pc' := 1) (st' := [.int n]) rfl rfl ?_
    refine wp_s (i := .i2l) (n := 1) (pc' := 2) (st' := [.long ((n).toInt64)]) rfl rfl ?_
    refine wp_s (i := .lconst 0) (n := 1) (pc' := 3) (st' := [.long 0, .long ((n).toInt64)]) rfl rfl ?_
    refine wp_s (i := .aload_n 0) (n := 1) (pc' := 4) (st' := [.ref 114, .long 0, .long ((n).toInt64)]) rfl rfl ?_
    refine wp_gf (idx := 167) (a := 114) (v := .int 0) (pc' := 7) rfl rfl hb_114 rfl rfl ?_
    refine wp_s (i := .iconst 1) (n := 1) (pc' := 8) (st' := [.int 1, .int 0, .long 0, .long ((n).toInt64)]) rfl rfl ?_
    refine wp_s (i := .isub) (n := 1) (pc' := 9) (st' := [.int (-1), .long 0, .long ((n).toInt64)]) rfl rfl ?_
    refine wp_s (i := .i2l) (n := 1) (pc' := 10) (st' := [.long (-1), .long 0, .long ((n).toInt64)]) rfl rfl ?_
    refine wp_c (i := .invokestatic 81) (n := 3) (Dq := 10) (r' := mm_r120) (as := [.long ((n).toInt64), .long 0, .long (-1)]) (rest := []) (ls' := [some (.long ((n).toInt64)), none, some (.long 0), none, some (.long (-1)), none]) rfl rfl rfl ?_
    refine wp_s (i := .lload_n 0) (n := 1) (pc' := 1) (st' := [.long ((n).toInt64)]) rfl rfl ?_
    refine wp_s (i := .lload_n 2) (n := 1) (pc' := 2) (st' := [.long 0, .long ((n).toInt64)]) rfl rfl ?_
    refine wp_s (i := .lcmp) (n := 1) (pc' := 3) (st' := [.int (lg_cmp ((n).toInt64) 0)]) rfl rfl ?_
    refine wp_if (t := 17) (st := []) rfl rfl (fun hc2 => ?_) (fun hc2 => ?_)
    · skip
      have q2 : (n).toInt < 0 := by have := lc_t_lt hc2; simpa using this
      show mm_Wp _ _ _ 17 _ _ _ _
      refine wp_s (i := .iconst 0) (n := 1) (pc' := 18) (st' := [.int 0]) rfl rfl ?_
      refine wp_r (i := .ireturn) (n := 1) (v := some (.int 0)) rfl rfl ?_
      show mm_Wp X 11 mm_r138 13 [some (.ref 114), some (.int n)] [.int 0] _ _
      refine wp_r (i := .ireturn) (n := 1) (v := some (.int 0)) rfl rfl ?_
      show mm_Wp X 12 mm_r141 5 [some (.ref 114), some (.int n), some (.int w)] [.int 0] _ _
      refine wp_s (i := .ifCond .ne 5) (n := 3) (pc' := 8) (st' := []) rfl rfl ?_
      refine wp_s (i := .iconst (-1)) (n := 1) (pc' := 9) (st' := [.int (-1)]) rfl rfl ?_
      refine wp_r (i := .ireturn) (n := 1) (v := some (.int (-1))) rfl rfl ?_
      exact ⟨rfl, pk_ok0⟩
    · skip
      have q2 : (n).toInt ≥ 0 := by have := lc_f_lt hc2; simpa using this
      exfalso; omega
  · skip
    have q1 : (n).toInt ≥ 0 := by have := mc_f_lt hc1; simpa using this
    show mm_Wp _ _ _ 4 _ _ _ _
    refine wp_s (i := .iload_n 1) (n := 1) (pc' := 5) (st' := [.int n]) rfl rfl ?_
    refine wp_s (i := .aload_n 0) (n := 1) (pc' := 6) (st' := [.ref 0, .int n]) rfl rfl ?_
    refine wp_gf (idx := 24) (a := 0) (v := .ref 25) (pc' := 9) rfl rfl hb_0 rfl rfl ?_
    refine wp_gf (idx := 111) (a := 25) (v := .int 0) (pc' := 12) rfl rfl hb_25 rfl rfl ?_
    refine wp_ic (t := 19) (st := []) rfl rfl (fun hc3 => ?_) (fun hc3 => ?_)
    · skip
      have q3 : (n).toInt ≥ 0 := by have := mc_t_ge hc3; simpa using this
      show mm_Wp _ _ _ 19 _ _ _ _
      refine wp_s (i := .iconst 0) (n := 1) (pc' := 20) (st' := [.int 0]) rfl rfl ?_
      refine wp_r (i := .ireturn) (n := 1) (v := some (.int 0)) rfl rfl ?_
      show mm_Wp X 12 mm_r70 5 [some (.ref 0), some (.int n), some (.int w)] [.int 0] _ _
      refine wp_s (i := .ifCond .ne 5) (n := 3) (pc' := 8) (st' := []) rfl rfl ?_
      refine wp_s (i := .iconst (-1)) (n := 1) (pc' := 9) (st' := [.int (-1)]) rfl rfl ?_
      refine wp_r (i := .ireturn) (n := 1) (v := some (.int (-1))) rfl rfl ?_
      refine ⟨(-1), rfl, ⟨_, hb_114⟩, ?_⟩
      show mm_Wp X 12 mm_r141 0 [some (.ref 114), some (.int n), some (.int w)] [] _ _
      refine wp_s (i := .aload_n 0) (n := 1) (pc' := 1) (st' := [.ref 114]) rfl rfl ?_
      refine wp_s (i := .iload_n 1) (n := 1) (pc' := 2) (st' := [.int n, .ref 114]) rfl rfl ?_
      refine wp_c (i := .invokevirtual 191) (n := 3) (Dq := 11) (r' := mm_r138) (as := [.ref 114, .int n]) (rest := []) (ls' := [some (.ref 114), some (.int n)]) rfl rfl rfl ?_
      refine wp_s (i := .iload_n 1) (n := 1) (pc' := 1) (st' := [.int n]) rfl rfl ?_
      refine wp_s (i := .i2l) (n := 1) (pc' := 2) (st' := [.long ((n).toInt64)]) rfl rfl ?_
      refine wp_s (i := .lconst 0) (n := 1) (pc' := 3) (st' := [.long 0, .long ((n).toInt64)]) rfl rfl ?_
      refine wp_s (i := .aload_n 0) (n := 1) (pc' := 4) (st' := [.ref 114, .long 0, .long ((n).toInt64)]) rfl rfl ?_
      refine wp_gf (idx := 167) (a := 114) (v := .int 0) (pc' := 7) rfl rfl hb_114 rfl rfl ?_
      refine wp_s (i := .iconst 1) (n := 1) (pc' := 8) (st' := [.int 1, .int 0, .long 0, .long ((n).toInt64)]) rfl rfl ?_
      refine wp_s (i := .isub) (n := 1) (pc' := 9) (st' := [.int (-1), .long 0, .long ((n).toInt64)]) rfl rfl ?_
      refine wp_s (i := .i2l) (n := 1) (pc' := 10) (st' := [.long (-1), .long 0, .long ((n).toInt64)]) rfl rfl ?_
      refine wp_c (i := .invokestatic 81) (n := 3) (Dq := 10) (r' := mm_r120) (as := [.long ((n).toInt64), .long 0, .long (-1)]) (rest := []) (ls' := [some (.long ((n).toInt64)), none, some (.long 0), none, some (.long (-1)), none]) rfl rfl rfl ?_
      refine wp_s (i := .lload_n 0) (n := 1) (pc' := 1) (st' := [.long ((n).toInt64)]) rfl rfl ?_
      refine wp_s (i := .lload_n 2) (n := 1) (pc' := 2) (st' := [.long 0, .long ((n).toInt64)]) rfl rfl ?_
      refine wp_s (i := .lcmp) (n := 1) (pc' := 3) (st' := [.int (lg_cmp ((n).toInt64) 0)]) rfl rfl ?_
      refine wp_if (t := 17) (st := []) rfl rfl (fun hc4 => ?_) (fun hc4 => ?_)
      · skip
        have q4 : (n).toInt < 0 := by have := lc_t_lt hc4; simpa using this
        exfalso; omega
      · skip
        have q4 : (n).toInt ≥ 0 := by have := lc_f_lt hc4; simpa using this
        show mm_Wp _ _ _ 6 _ _ _ _
        refine wp_s (i := .lload_n 0) (n := 1) (pc' := 7) (st' := [.long ((n).toInt64)]) rfl rfl ?_
        refine wp_s (i := .lload 4) (n := 2) (pc' := 9) (st' := [.long (-1), .long ((n).toInt64)]) rfl rfl ?_
        refine wp_s (i := .lcmp) (n := 1) (pc' := 10) (st' := [.int (lg_cmp ((n).toInt64) (-1))]) rfl rfl ?_
        refine wp_if (t := 17) (st := []) rfl rfl (fun hc5 => ?_) (fun hc5 => ?_)
        · skip
          have q5 : (n).toInt > -1 := by have := lc_t_gt hc5; simpa using this
          show mm_Wp _ _ _ 17 _ _ _ _
          refine wp_s (i := .iconst 0) (n := 1) (pc' := 18) (st' := [.int 0]) rfl rfl ?_
          refine wp_r (i := .ireturn) (n := 1) (v := some (.int 0)) rfl rfl ?_
          show mm_Wp X 11 mm_r138 13 [some (.ref 114), some (.int n)] [.int 0] _ _
          refine wp_r (i := .ireturn) (n := 1) (v := some (.int 0)) rfl rfl ?_
          show mm_Wp X 12 mm_r141 5 [some (.ref 114), some (.int n), some (.int w)] [.int 0] _ _
          refine wp_s (i := .ifCond .ne 5) (n := 3) (pc' := 8) (st' := []) rfl rfl ?_
          refine wp_s (i := .iconst (-1)) (n := 1) (pc' := 9) (st' := [.int (-1)]) rfl rfl ?_
          refine wp_r (i := .ireturn) (n := 1) (v := some (.int (-1))) rfl rfl ?_
          exact ⟨rfl, pk_ok0⟩
        · skip
          have q5 : (n).toInt ≤ -1 := by have := lc_f_gt hc5; simpa using this
          exfalso; omega
    · skip
      have q3 : (n).toInt < 0 := by have := mc_f_ge hc3; simpa using this
      exfalso; omega
set_option maxRecDepth 20000 in
set_option maxHeartbeats 4000000 in
theorem pk_6 (X : Option (List Int32)) (n w : Int32) : mm_Wp X 12 mm_r71 0 [some (.ref 0), some (.int n), some (.int w), none] [] hp_0 (fun v1 h1 => ∃ x : Int32, v1 = some (.int x) ∧ (∃ fs, h1[114]? = some (.inr (10, fs))) ∧ mm_Wp X 12 mm_r142 0 [some (.ref 114), some (.int n), some (.int w)] [] h1 (fun v2 h2 => v2 = some (.int x) ∧ pk_ok h2)) := by
  refine wp_s (i := .aload_n 0) (n := 1) (pc' := 1) (st' := [.ref 0]) rfl rfl ?_
  refine wp_s (i := .iload_n 1) (n := 1) (pc' := 2) (st' := [.int n, .ref 0]) rfl rfl ?_
  refine wp_c (i := .invokevirtual 146) (n := 3) (Dq := 11) (r' := mm_r104) (as := [.ref 0, .int n]) (rest := []) (ls' := [some (.ref 0), some (.int n)]) rfl rfl rfl ?_
  refine wp_s (i := .iload_n 1) (n := 1) (pc' := 1) (st' := [.int n]) rfl rfl ?_
  refine wp_if (t := 19) (st := []) rfl rfl (fun hc1 => ?_) (fun hc1 => ?_)
  · skip
    have q1 : (n).toInt < 0 := by have := mc_t_lt hc1; simpa using this
    show mm_Wp _ _ _ 19 _ _ _ _
    refine wp_s (i := .iconst 0) (n := 1) (pc' := 20) (st' := [.int 0]) rfl rfl ?_
    refine wp_r (i := .ireturn) (n := 1) (v := some (.int 0)) rfl rfl ?_
    show mm_Wp X 12 mm_r71 5 [some (.ref 0), some (.int n), some (.int w), none] [.int 0] _ _
    refine wp_s (i := .ifCond .ne 5) (n := 3) (pc' := 8) (st' := []) rfl rfl ?_
    refine wp_s (i := .iconst (-1)) (n := 1) (pc' := 9) (st' := [.int (-1)]) rfl rfl ?_
    refine wp_r (i := .ireturn) (n := 1) (v := some (.int (-1))) rfl rfl ?_
    refine ⟨(-1), rfl, ⟨_, hb_114⟩, ?_⟩
    show mm_Wp X 12 mm_r142 0 [some (.ref 114), some (.int n), some (.int w)] [] _ _
    refine wp_s (i := .aload_n 0) (n := 1) (pc' := 1) (st' := [.ref 114]) rfl rfl ?_
    refine wp_s (i := .iload_n 1) (n := 1) (pc' := 2) (st' := [.int n, .ref 114]) rfl rfl ?_
    refine wp_c (i := .invokevirtual 195) (n := 3) (Dq := 11) (r' := mm_r139) (as := [.ref 114, .int n]) (rest := []) (ls' := [some (.ref 114), some (.int n)]) rfl rfl rfl ?_
    refine wp_s (i := .iload_n 1) (n := 1) (pc' := 1) (st' := [.int n]) rfl rfl ?_
    refine wp_s (i := .i2l) (n := 1) (pc' := 2) (st' := [.long ((n).toInt64)]) rfl rfl ?_
    refine wp_s (i := .lconst 0) (n := 1) (pc' := 3) (st' := [.long 0, .long ((n).toInt64)]) rfl rfl ?_
    refine wp_s (i := .aload_n 0) (n := 1) (pc' := 4) (st' := [.ref 114, .long 0, .long ((n).toInt64)]) rfl rfl ?_
    refine wp_gf (idx := 170) (a := 114) (v := .int 0) (pc' := 7) rfl rfl hb_114 rfl rfl ?_
    refine wp_s (i := .iconst 1) (n := 1) (pc' := 8) (st' := [.int 1, .int 0, .long 0, .long ((n).toInt64)]) rfl rfl ?_
    refine wp_s (i := .isub) (n := 1) (pc' := 9) (st' := [.int (-1), .long 0, .long ((n).toInt64)]) rfl rfl ?_
    refine wp_s (i := .i2l) (n := 1) (pc' := 10) (st' := [.long (-1), .long 0, .long ((n).toInt64)]) rfl rfl ?_
    refine wp_c (i := .invokestatic 81) (n := 3) (Dq := 10) (r' := mm_r120) (as := [.long ((n).toInt64), .long 0, .long (-1)]) (rest := []) (ls' := [some (.long ((n).toInt64)), none, some (.long 0), none, some (.long (-1)), none]) rfl rfl rfl ?_
    refine wp_s (i := .lload_n 0) (n := 1) (pc' := 1) (st' := [.long ((n).toInt64)]) rfl rfl ?_
    refine wp_s (i := .lload_n 2) (n := 1) (pc' := 2) (st' := [.long 0, .long ((n).toInt64)]) rfl rfl ?_
    refine wp_s (i := .lcmp) (n := 1) (pc' := 3) (st' := [.int (lg_cmp ((n).toInt64) 0)]) rfl rfl ?_
    refine wp_if (t := 17) (st := []) rfl rfl (fun hc2 => ?_) (fun hc2 => ?_)
    · skip
      have q2 : (n).toInt < 0 := by have := lc_t_lt hc2; simpa using this
      show mm_Wp _ _ _ 17 _ _ _ _
      refine wp_s (i := .iconst 0) (n := 1) (pc' := 18) (st' := [.int 0]) rfl rfl ?_
      refine wp_r (i := .ireturn) (n := 1) (v := some (.int 0)) rfl rfl ?_
      show mm_Wp X 11 mm_r139 13 [some (.ref 114), some (.int n)] [.int 0] _ _
      refine wp_r (i := .ireturn) (n := 1) (v := some (.int 0)) rfl rfl ?_
      show mm_Wp X 12 mm_r142 5 [some (.ref 114), some (.int n), some (.int w)] [.int 0] _ _
      refine wp_s (i := .ifCond .ne 5) (n := 3) (pc' := 8) (st' := []) rfl rfl ?_
      refine wp_s (i := .iconst (-1)) (n := 1) (pc' := 9) (st' := [.int (-1)]) rfl rfl ?_
      refine wp_r (i := .ireturn) (n := 1) (v := some (.int (-1))) rfl rfl ?_
      exact ⟨rfl, pk_ok0⟩
    · skip
      have q2 : (n).toInt ≥ 0 := by have := lc_f_lt hc2; simpa using this
      exfalso; omega
  · skip
    have q1 : (n).toInt ≥ 0 := by have := mc_f_lt hc1; simpa using this
    show mm_Wp _ _ _ 4 _ _ _ _
    refine wp_s (i := .iload_n 1) (n := 1) (pc' := 5) (st' := [.int n]) rfl rfl ?_
    refine wp_s (i := .aload_n 0) (n := 1) (pc' := 6) (st' := [.ref 0, .int n]) rfl rfl ?_
    refine wp_gf (idx := 24) (a := 0) (v := .ref 25) (pc' := 9) rfl rfl hb_0 rfl rfl ?_
    refine wp_gf (idx := 114) (a := 25) (v := .int 0) (pc' := 12) rfl rfl hb_25 rfl rfl ?_
    refine wp_ic (t := 19) (st := []) rfl rfl (fun hc3 => ?_) (fun hc3 => ?_)
    · skip
      have q3 : (n).toInt ≥ 0 := by have := mc_t_ge hc3; simpa using this
      show mm_Wp _ _ _ 19 _ _ _ _
      refine wp_s (i := .iconst 0) (n := 1) (pc' := 20) (st' := [.int 0]) rfl rfl ?_
      refine wp_r (i := .ireturn) (n := 1) (v := some (.int 0)) rfl rfl ?_
      show mm_Wp X 12 mm_r71 5 [some (.ref 0), some (.int n), some (.int w), none] [.int 0] _ _
      refine wp_s (i := .ifCond .ne 5) (n := 3) (pc' := 8) (st' := []) rfl rfl ?_
      refine wp_s (i := .iconst (-1)) (n := 1) (pc' := 9) (st' := [.int (-1)]) rfl rfl ?_
      refine wp_r (i := .ireturn) (n := 1) (v := some (.int (-1))) rfl rfl ?_
      refine ⟨(-1), rfl, ⟨_, hb_114⟩, ?_⟩
      show mm_Wp X 12 mm_r142 0 [some (.ref 114), some (.int n), some (.int w)] [] _ _
      refine wp_s (i := .aload_n 0) (n := 1) (pc' := 1) (st' := [.ref 114]) rfl rfl ?_
      refine wp_s (i := .iload_n 1) (n := 1) (pc' := 2) (st' := [.int n, .ref 114]) rfl rfl ?_
      refine wp_c (i := .invokevirtual 195) (n := 3) (Dq := 11) (r' := mm_r139) (as := [.ref 114, .int n]) (rest := []) (ls' := [some (.ref 114), some (.int n)]) rfl rfl rfl ?_
      refine wp_s (i := .iload_n 1) (n := 1) (pc' := 1) (st' := [.int n]) rfl rfl ?_
      refine wp_s (i := .i2l) (n := 1) (pc' := 2) (st' := [.long ((n).toInt64)]) rfl rfl ?_
      refine wp_s (i := .lconst 0) (n := 1) (pc' := 3) (st' := [.long 0, .long ((n).toInt64)]) rfl rfl ?_
      refine wp_s (i := .aload_n 0) (n := 1) (pc' := 4) (st' := [.ref 114, .long 0, .long ((n).toInt64)]) rfl rfl ?_
      refine wp_gf (idx := 170) (a := 114) (v := .int 0) (pc' := 7) rfl rfl hb_114 rfl rfl ?_
      refine wp_s (i := .iconst 1) (n := 1) (pc' := 8) (st' := [.int 1, .int 0, .long 0, .long ((n).toInt64)]) rfl rfl ?_
      refine wp_s (i := .isub) (n := 1) (pc' := 9) (st' := [.int (-1), .long 0, .long ((n).toInt64)]) rfl rfl ?_
      refine wp_s (i := .i2l) (n := 1) (pc' := 10) (st' := [.long (-1), .long 0, .long ((n).toInt64)]) rfl rfl ?_
      refine wp_c (i := .invokestatic 81) (n := 3) (Dq := 10) (r' := mm_r120) (as := [.long ((n).toInt64), .long 0, .long (-1)]) (rest := []) (ls' := [some (.long ((n).toInt64)), none, some (.long 0), none, some (.long (-1)), none]) rfl rfl rfl ?_
      refine wp_s (i := .lload_n 0) (n := 1) (pc' := 1) (st' := [.long ((n).toInt64)]) rfl rfl ?_
      refine wp_s (i := .lload_n 2) (n := 1) (pc' := 2) (st' := [.long 0, .long ((n).toInt64)]) rfl rfl ?_
      refine wp_s (i := .lcmp) (n := 1) (pc' := 3) (st' := [.int (lg_cmp ((n).toInt64) 0)]) rfl rfl ?_
      refine wp_if (t := 17) (st := []) rfl rfl (fun hc4 => ?_) (fun hc4 => ?_)
      · skip
        have q4 : (n).toInt < 0 := by have := lc_t_lt hc4; simpa using this
        exfalso; omega
      · skip
        have q4 : (n).toInt ≥ 0 := by have := lc_f_lt hc4; simpa using this
        show mm_Wp _ _ _ 6 _ _ _ _
        refine wp_s (i := .lload_n 0) (n := 1) (pc' := 7) (st' := [.long ((n).toInt64)]) rfl rfl ?_
        refine wp_s (i := .lload 4) (n := 2) (pc' := 9) (st' := [.long (-1), .long ((n).toInt64)]) rfl rfl ?_
        refine wp_s (i := .lcmp) (n := 1) (pc' := 10) (st' := [.int (lg_cmp ((n).toInt64) (-1))]) rfl rfl ?_
        refine wp_if (t := 17) (st := []) rfl rfl (fun hc5 => ?_) (fun hc5 => ?_)
        · skip
          have q5 : (n).toInt > -1 := by have := lc_t_gt hc5; simpa using this
          show mm_Wp _ _ _ 17 _ _ _ _
          refine wp_s (i := .iconst 0) (n := 1) (pc' := 18) (st' := [.int 0]) rfl rfl ?_
          refine wp_r (i := .ireturn) (n := 1) (v := some (.int 0)) rfl rfl ?_
          show mm_Wp X 11 mm_r139 13 [some (.ref 114), some (.int n)] [.int 0] _ _
          refine wp_r (i := .ireturn) (n := 1) (v := some (.int 0)) rfl rfl ?_
          show mm_Wp X 12 mm_r142 5 [some (.ref 114), some (.int n), some (.int w)] [.int 0] _ _
          refine wp_s (i := .ifCond .ne 5) (n := 3) (pc' := 8) (st' := []) rfl rfl ?_
          refine wp_s (i := .iconst (-1)) (n := 1) (pc' := 9) (st' := [.int (-1)]) rfl rfl ?_
          refine wp_r (i := .ireturn) (n := 1) (v := some (.int (-1))) rfl rfl ?_
          exact ⟨rfl, pk_ok0⟩
        · skip
          have q5 : (n).toInt ≤ -1 := by have := lc_f_gt hc5; simpa using this
          exfalso; omega
    · skip
      have q3 : (n).toInt < 0 := by have := mc_f_ge hc3; simpa using this
      exfalso; omega
set_option maxRecDepth 20000 in
set_option maxHeartbeats 4000000 in
theorem pk_7 (X : Option (List Int32)) (n w : Int32) : mm_Wp X 12 mm_r72 0 [some (.ref 0), some (.int n), some (.int w), none] [] hp_0 (fun v1 h1 => ∃ x : Int32, v1 = some (.int x) ∧ (∃ fs, h1[114]? = some (.inr (10, fs))) ∧ mm_Wp X 12 mm_r143 0 [some (.ref 114), some (.int n), some (.int w), none] [] h1 (fun v2 h2 => v2 = some (.int x) ∧ pk_ok h2)) := by
  refine wp_s (i := .aload_n 0) (n := 1) (pc' := 1) (st' := [.ref 0]) rfl rfl ?_
  refine wp_s (i := .iload_n 1) (n := 1) (pc' := 2) (st' := [.int n, .ref 0]) rfl rfl ?_
  refine wp_c (i := .invokevirtual 129) (n := 3) (Dq := 11) (r' := mm_r103) (as := [.ref 0, .int n]) (rest := []) (ls' := [some (.ref 0), some (.int n)]) rfl rfl rfl ?_
  refine wp_s (i := .iload_n 1) (n := 1) (pc' := 1) (st' := [.int n]) rfl rfl ?_
  refine wp_if (t := 19) (st := []) rfl rfl (fun hc1 => ?_) (fun hc1 => ?_)
  · skip
    have q1 : (n).toInt < 0 := by have := mc_t_lt hc1; simpa using this
    show mm_Wp _ _ _ 19 _ _ _ _
    refine wp_s (i := .iconst 0) (n := 1) (pc' := 20) (st' := [.int 0]) rfl rfl ?_
    refine wp_r (i := .ireturn) (n := 1) (v := some (.int 0)) rfl rfl ?_
    show mm_Wp X 12 mm_r72 5 [some (.ref 0), some (.int n), some (.int w), none] [.int 0] _ _
    refine wp_s (i := .ifCond .eq 12) (n := 3) (pc' := 17) (st' := []) rfl rfl ?_
    refine wp_s (i := .iconst (-1)) (n := 1) (pc' := 18) (st' := [.int (-1)]) rfl rfl ?_
    refine wp_r (i := .ireturn) (n := 1) (v := some (.int (-1))) rfl rfl ?_
    refine ⟨(-1), rfl, ⟨_, hb_114⟩, ?_⟩
    show mm_Wp X 12 mm_r143 0 [some (.ref 114), some (.int n), some (.int w), none] [] _ _
    refine wp_s (i := .aload_n 0) (n := 1) (pc' := 1) (st' := [.ref 114]) rfl rfl ?_
    refine wp_s (i := .iload_n 1) (n := 1) (pc' := 2) (st' := [.int n, .ref 114]) rfl rfl ?_
    refine wp_c (i := .invokevirtual 191) (n := 3) (Dq := 11) (r' := mm_r138) (as := [.ref 114, .int n]) (rest := []) (ls' := [some (.ref 114), some (.int n)]) rfl rfl rfl ?_
    refine wp_s (i := .iload_n 1) (n := 1) (pc' := 1) (st' := [.int n]) rfl rfl ?_
    refine wp_s (i := .i2l) (n := 1) (pc' := 2) (st' := [.long ((n).toInt64)]) rfl rfl ?_
    refine wp_s (i := .lconst 0) (n := 1) (pc' := 3) (st' := [.long 0, .long ((n).toInt64)]) rfl rfl ?_
    refine wp_s (i := .aload_n 0) (n := 1) (pc' := 4) (st' := [.ref 114, .long 0, .long ((n).toInt64)]) rfl rfl ?_
    refine wp_gf (idx := 167) (a := 114) (v := .int 0) (pc' := 7) rfl rfl hb_114 rfl rfl ?_
    refine wp_s (i := .iconst 1) (n := 1) (pc' := 8) (st' := [.int 1, .int 0, .long 0, .long ((n).toInt64)]) rfl rfl ?_
    refine wp_s (i := .isub) (n := 1) (pc' := 9) (st' := [.int (-1), .long 0, .long ((n).toInt64)]) rfl rfl ?_
    refine wp_s (i := .i2l) (n := 1) (pc' := 10) (st' := [.long (-1), .long 0, .long ((n).toInt64)]) rfl rfl ?_
    refine wp_c (i := .invokestatic 81) (n := 3) (Dq := 10) (r' := mm_r120) (as := [.long ((n).toInt64), .long 0, .long (-1)]) (rest := []) (ls' := [some (.long ((n).toInt64)), none, some (.long 0), none, some (.long (-1)), none]) rfl rfl rfl ?_
    refine wp_s (i := .lload_n 0) (n := 1) (pc' := 1) (st' := [.long ((n).toInt64)]) rfl rfl ?_
    refine wp_s (i := .lload_n 2) (n := 1) (pc' := 2) (st' := [.long 0, .long ((n).toInt64)]) rfl rfl ?_
    refine wp_s (i := .lcmp) (n := 1) (pc' := 3) (st' := [.int (lg_cmp ((n).toInt64) 0)]) rfl rfl ?_
    refine wp_if (t := 17) (st := []) rfl rfl (fun hc2 => ?_) (fun hc2 => ?_)
    · skip
      have q2 : (n).toInt < 0 := by have := lc_t_lt hc2; simpa using this
      show mm_Wp _ _ _ 17 _ _ _ _
      refine wp_s (i := .iconst 0) (n := 1) (pc' := 18) (st' := [.int 0]) rfl rfl ?_
      refine wp_r (i := .ireturn) (n := 1) (v := some (.int 0)) rfl rfl ?_
      show mm_Wp X 11 mm_r138 13 [some (.ref 114), some (.int n)] [.int 0] _ _
      refine wp_r (i := .ireturn) (n := 1) (v := some (.int 0)) rfl rfl ?_
      show mm_Wp X 12 mm_r143 5 [some (.ref 114), some (.int n), some (.int w), none] [.int 0] _ _
      refine wp_s (i := .ifCond .eq 15) (n := 3) (pc' := 20) (st' := []) rfl rfl ?_
      refine wp_s (i := .iconst (-1)) (n := 1) (pc' := 21) (st' := [.int (-1)]) rfl rfl ?_
      refine wp_r (i := .ireturn) (n := 1) (v := some (.int (-1))) rfl rfl ?_
      exact ⟨rfl, pk_ok0⟩
    · skip
      have q2 : (n).toInt ≥ 0 := by have := lc_f_lt hc2; simpa using this
      exfalso; omega
  · skip
    have q1 : (n).toInt ≥ 0 := by have := mc_f_lt hc1; simpa using this
    show mm_Wp _ _ _ 4 _ _ _ _
    refine wp_s (i := .iload_n 1) (n := 1) (pc' := 5) (st' := [.int n]) rfl rfl ?_
    refine wp_s (i := .aload_n 0) (n := 1) (pc' := 6) (st' := [.ref 0, .int n]) rfl rfl ?_
    refine wp_gf (idx := 24) (a := 0) (v := .ref 25) (pc' := 9) rfl rfl hb_0 rfl rfl ?_
    refine wp_gf (idx := 111) (a := 25) (v := .int 0) (pc' := 12) rfl rfl hb_25 rfl rfl ?_
    refine wp_ic (t := 19) (st := []) rfl rfl (fun hc3 => ?_) (fun hc3 => ?_)
    · skip
      have q3 : (n).toInt ≥ 0 := by have := mc_t_ge hc3; simpa using this
      show mm_Wp _ _ _ 19 _ _ _ _
      refine wp_s (i := .iconst 0) (n := 1) (pc' := 20) (st' := [.int 0]) rfl rfl ?_
      refine wp_r (i := .ireturn) (n := 1) (v := some (.int 0)) rfl rfl ?_
      show mm_Wp X 12 mm_r72 5 [some (.ref 0), some (.int n), some (.int w), none] [.int 0] _ _
      refine wp_s (i := .ifCond .eq 12) (n := 3) (pc' := 17) (st' := []) rfl rfl ?_
      refine wp_s (i := .iconst (-1)) (n := 1) (pc' := 18) (st' := [.int (-1)]) rfl rfl ?_
      refine wp_r (i := .ireturn) (n := 1) (v := some (.int (-1))) rfl rfl ?_
      refine ⟨(-1), rfl, ⟨_, hb_114⟩, ?_⟩
      show mm_Wp X 12 mm_r143 0 [some (.ref 114), some (.int n), some (.int w), none] [] _ _
      refine wp_s (i := .aload_n 0) (n := 1) (pc' := 1) (st' := [.ref 114]) rfl rfl ?_
      refine wp_s (i := .iload_n 1) (n := 1) (pc' := 2) (st' := [.int n, .ref 114]) rfl rfl ?_
      refine wp_c (i := .invokevirtual 191) (n := 3) (Dq := 11) (r' := mm_r138) (as := [.ref 114, .int n]) (rest := []) (ls' := [some (.ref 114), some (.int n)]) rfl rfl rfl ?_
      refine wp_s (i := .iload_n 1) (n := 1) (pc' := 1) (st' := [.int n]) rfl rfl ?_
      refine wp_s (i := .i2l) (n := 1) (pc' := 2) (st' := [.long ((n).toInt64)]) rfl rfl ?_
      refine wp_s (i := .lconst 0) (n := 1) (pc' := 3) (st' := [.long 0, .long ((n).toInt64)]) rfl rfl ?_
      refine wp_s (i := .aload_n 0) (n := 1) (pc' := 4) (st' := [.ref 114, .long 0, .long ((n).toInt64)]) rfl rfl ?_
      refine wp_gf (idx := 167) (a := 114) (v := .int 0) (pc' := 7) rfl rfl hb_114 rfl rfl ?_
      refine wp_s (i := .iconst 1) (n := 1) (pc' := 8) (st' := [.int 1, .int 0, .long 0, .long ((n).toInt64)]) rfl rfl ?_
      refine wp_s (i := .isub) (n := 1) (pc' := 9) (st' := [.int (-1), .long 0, .long ((n).toInt64)]) rfl rfl ?_
      refine wp_s (i := .i2l) (n := 1) (pc' := 10) (st' := [.long (-1), .long 0, .long ((n).toInt64)]) rfl rfl ?_
      refine wp_c (i := .invokestatic 81) (n := 3) (Dq := 10) (r' := mm_r120) (as := [.long ((n).toInt64), .long 0, .long (-1)]) (rest := []) (ls' := [some (.long ((n).toInt64)), none, some (.long 0), none, some (.long (-1)), none]) rfl rfl rfl ?_
      refine wp_s (i := .lload_n 0) (n := 1) (pc' := 1) (st' := [.long ((n).toInt64)]) rfl rfl ?_
      refine wp_s (i := .lload_n 2) (n := 1) (pc' := 2) (st' := [.long 0, .long ((n).toInt64)]) rfl rfl ?_
      refine wp_s (i := .lcmp) (n := 1) (pc' := 3) (st' := [.int (lg_cmp ((n).toInt64) 0)]) rfl rfl ?_
      refine wp_if (t := 17) (st := []) rfl rfl (fun hc4 => ?_) (fun hc4 => ?_)
      · skip
        have q4 : (n).toInt < 0 := by have := lc_t_lt hc4; simpa using this
        exfalso; omega
      · skip
        have q4 : (n).toInt ≥ 0 := by have := lc_f_lt hc4; simpa using this
        show mm_Wp _ _ _ 6 _ _ _ _
        refine wp_s (i := .lload_n 0) (n := 1) (pc' := 7) (st' := [.long ((n).toInt64)]) rfl rfl ?_
        refine wp_s (i := .lload 4) (n := 2) (pc' := 9) (st' := [.long (-1), .long ((n).toInt64)]) rfl rfl ?_
        refine wp_s (i := .lcmp) (n := 1) (pc' := 10) (st' := [.int (lg_cmp ((n).toInt64) (-1))]) rfl rfl ?_
        refine wp_if (t := 17) (st := []) rfl rfl (fun hc5 => ?_) (fun hc5 => ?_)
        · skip
          have q5 : (n).toInt > -1 := by have := lc_t_gt hc5; simpa using this
          show mm_Wp _ _ _ 17 _ _ _ _
          refine wp_s (i := .iconst 0) (n := 1) (pc' := 18) (st' := [.int 0]) rfl rfl ?_
          refine wp_r (i := .ireturn) (n := 1) (v := some (.int 0)) rfl rfl ?_
          show mm_Wp X 11 mm_r138 13 [some (.ref 114), some (.int n)] [.int 0] _ _
          refine wp_r (i := .ireturn) (n := 1) (v := some (.int 0)) rfl rfl ?_
          show mm_Wp X 12 mm_r143 5 [some (.ref 114), some (.int n), some (.int w), none] [.int 0] _ _
          refine wp_s (i := .ifCond .eq 15) (n := 3) (pc' := 20) (st' := []) rfl rfl ?_
          refine wp_s (i := .iconst (-1)) (n := 1) (pc' := 21) (st' := [.int (-1)]) rfl rfl ?_
          refine wp_r (i := .ireturn) (n := 1) (v := some (.int (-1))) rfl rfl ?_
          exact ⟨rfl, pk_ok0⟩
        · skip
          have q5 : (n).toInt ≤ -1 := by have := lc_f_gt hc5; simpa using this
          exfalso; omega
    · skip
      have q3 : (n).toInt < 0 := by have := mc_f_ge hc3; simpa using this
      exfalso; omega
set_option maxRecDepth 20000 in
set_option maxHeartbeats 4000000 in
theorem pk_8 (X : Option (List Int32)) (n w : Int32) : mm_Wp X 12 mm_r73 0 [some (.ref 0), some (.int n), some (.int w), none] [] hp_0 (fun v1 h1 => ∃ x : Int32, v1 = some (.int x) ∧ (∃ fs, h1[114]? = some (.inr (10, fs))) ∧ mm_Wp X 12 mm_r144 0 [some (.ref 114), some (.int n), some (.int w), none] [] h1 (fun v2 h2 => v2 = some (.int x) ∧ pk_ok h2)) := by
  refine wp_s (i := .aload_n 0) (n := 1) (pc' := 1) (st' := [.ref 0]) rfl rfl ?_
  refine wp_s (i := .iload_n 1) (n := 1) (pc' := 2) (st' := [.int n, .ref 0]) rfl rfl ?_
  refine wp_c (i := .invokevirtual 129) (n := 3) (Dq := 11) (r' := mm_r103) (as := [.ref 0, .int n]) (rest := []) (ls' := [some (.ref 0), some (.int n)]) rfl rfl rfl ?_
  refine wp_s (i := .iload_n 1) (n := 1) (pc' := 1) (st' := [.int n]) rfl rfl ?_
  refine wp_if (t := 19) (st := []) rfl rfl (fun hc1 => ?_) (fun hc1 => ?_)
  · skip
    have q1 : (n).toInt < 0 := by have := mc_t_lt hc1; simpa using this
    show mm_Wp _ _ _ 19 _ _ _ _
    refine wp_s (i := .iconst 0) (n := 1) (pc' := 20) (st' := [.int 0]) rfl rfl ?_
    refine wp_r (i := .ireturn) (n := 1) (v := some (.int 0)) rfl rfl ?_
    show mm_Wp X 12 mm_r73 5 [some (.ref 0), some (.int n), some (.int w), none] [.int 0] _ _
    refine wp_s (i := .ifCond .ne 5) (n := 3) (pc' := 8) (st' := []) rfl rfl ?_
    refine wp_s (i := .iconst (-1)) (n := 1) (pc' := 9) (st' := [.int (-1)]) rfl rfl ?_
    refine wp_r (i := .ireturn) (n := 1) (v := some (.int (-1))) rfl rfl ?_
    refine ⟨(-1), rfl, ⟨_, hb_114⟩, ?_⟩
    show mm_Wp X 12 mm_r144 0 [some (.ref 114), some (.int n), some (.int w), none] [] _ _
    refine wp_s (i := .aload_n 0) (n := 1) (pc' := 1) (st' := [.ref 114]) rfl rfl ?_
    refine wp_s (i := .iload_n 1) (n := 1) (pc' := 2) (st' := [.int n, .ref 114]) rfl rfl ?_
    refine wp_c (i := .invokevirtual 191) (n := 3) (Dq := 11) (r' := mm_r138) (as := [.ref 114, .int n]) (rest := []) (ls' := [some (.ref 114), some (.int n)]) rfl rfl rfl ?_
    refine wp_s (i := .iload_n 1) (n := 1) (pc' := 1) (st' := [.int n]) rfl rfl ?_
    refine wp_s (i := .i2l) (n := 1) (pc' := 2) (st' := [.long ((n).toInt64)]) rfl rfl ?_
    refine wp_s (i := .lconst 0) (n := 1) (pc' := 3) (st' := [.long 0, .long ((n).toInt64)]) rfl rfl ?_
    refine wp_s (i := .aload_n 0) (n := 1) (pc' := 4) (st' := [.ref 114, .long 0, .long ((n).toInt64)]) rfl rfl ?_
    refine wp_gf (idx := 167) (a := 114) (v := .int 0) (pc' := 7) rfl rfl hb_114 rfl rfl ?_
    refine wp_s (i := .iconst 1) (n := 1) (pc' := 8) (st' := [.int 1, .int 0, .long 0, .long ((n).toInt64)]) rfl rfl ?_
    refine wp_s (i := .isub) (n := 1) (pc' := 9) (st' := [.int (-1), .long 0, .long ((n).toInt64)]) rfl rfl ?_
    refine wp_s (i := .i2l) (n := 1) (pc' := 10) (st' := [.long (-1), .long 0, .long ((n).toInt64)]) rfl rfl ?_
    refine wp_c (i := .invokestatic 81) (n := 3) (Dq := 10) (r' := mm_r120) (as := [.long ((n).toInt64), .long 0, .long (-1)]) (rest := []) (ls' := [some (.long ((n).toInt64)), none, some (.long 0), none, some (.long (-1)), none]) rfl rfl rfl ?_
    refine wp_s (i := .lload_n 0) (n := 1) (pc' := 1) (st' := [.long ((n).toInt64)]) rfl rfl ?_
    refine wp_s (i := .lload_n 2) (n := 1) (pc' := 2) (st' := [.long 0, .long ((n).toInt64)]) rfl rfl ?_
    refine wp_s (i := .lcmp) (n := 1) (pc' := 3) (st' := [.int (lg_cmp ((n).toInt64) 0)]) rfl rfl ?_
    refine wp_if (t := 17) (st := []) rfl rfl (fun hc2 => ?_) (fun hc2 => ?_)
    · skip
      have q2 : (n).toInt < 0 := by have := lc_t_lt hc2; simpa using this
      show mm_Wp _ _ _ 17 _ _ _ _
      refine wp_s (i := .iconst 0) (n := 1) (pc' := 18) (st' := [.int 0]) rfl rfl ?_
      refine wp_r (i := .ireturn) (n := 1) (v := some (.int 0)) rfl rfl ?_
      show mm_Wp X 11 mm_r138 13 [some (.ref 114), some (.int n)] [.int 0] _ _
      refine wp_r (i := .ireturn) (n := 1) (v := some (.int 0)) rfl rfl ?_
      show mm_Wp X 12 mm_r144 5 [some (.ref 114), some (.int n), some (.int w), none] [.int 0] _ _
      refine wp_s (i := .ifCond .ne 5) (n := 3) (pc' := 8) (st' := []) rfl rfl ?_
      refine wp_s (i := .iconst (-1)) (n := 1) (pc' := 9) (st' := [.int (-1)]) rfl rfl ?_
      refine wp_r (i := .ireturn) (n := 1) (v := some (.int (-1))) rfl rfl ?_
      exact ⟨rfl, pk_ok0⟩
    · skip
      have q2 : (n).toInt ≥ 0 := by have := lc_f_lt hc2; simpa using this
      exfalso; omega
  · skip
    have q1 : (n).toInt ≥ 0 := by have := mc_f_lt hc1; simpa using this
    show mm_Wp _ _ _ 4 _ _ _ _
    refine wp_s (i := .iload_n 1) (n := 1) (pc' := 5) (st' := [.int n]) rfl rfl ?_
    refine wp_s (i := .aload_n 0) (n := 1) (pc' := 6) (st' := [.ref 0, .int n]) rfl rfl ?_
    refine wp_gf (idx := 24) (a := 0) (v := .ref 25) (pc' := 9) rfl rfl hb_0 rfl rfl ?_
    refine wp_gf (idx := 111) (a := 25) (v := .int 0) (pc' := 12) rfl rfl hb_25 rfl rfl ?_
    refine wp_ic (t := 19) (st := []) rfl rfl (fun hc3 => ?_) (fun hc3 => ?_)
    · skip
      have q3 : (n).toInt ≥ 0 := by have := mc_t_ge hc3; simpa using this
      show mm_Wp _ _ _ 19 _ _ _ _
      refine wp_s (i := .iconst 0) (n := 1) (pc' := 20) (st' := [.int 0]) rfl rfl ?_
      refine wp_r (i := .ireturn) (n := 1) (v := some (.int 0)) rfl rfl ?_
      show mm_Wp X 12 mm_r73 5 [some (.ref 0), some (.int n), some (.int w), none] [.int 0] _ _
      refine wp_s (i := .ifCond .ne 5) (n := 3) (pc' := 8) (st' := []) rfl rfl ?_
      refine wp_s (i := .iconst (-1)) (n := 1) (pc' := 9) (st' := [.int (-1)]) rfl rfl ?_
      refine wp_r (i := .ireturn) (n := 1) (v := some (.int (-1))) rfl rfl ?_
      refine ⟨(-1), rfl, ⟨_, hb_114⟩, ?_⟩
      show mm_Wp X 12 mm_r144 0 [some (.ref 114), some (.int n), some (.int w), none] [] _ _
      refine wp_s (i := .aload_n 0) (n := 1) (pc' := 1) (st' := [.ref 114]) rfl rfl ?_
      refine wp_s (i := .iload_n 1) (n := 1) (pc' := 2) (st' := [.int n, .ref 114]) rfl rfl ?_
      refine wp_c (i := .invokevirtual 191) (n := 3) (Dq := 11) (r' := mm_r138) (as := [.ref 114, .int n]) (rest := []) (ls' := [some (.ref 114), some (.int n)]) rfl rfl rfl ?_
      refine wp_s (i := .iload_n 1) (n := 1) (pc' := 1) (st' := [.int n]) rfl rfl ?_
      refine wp_s (i := .i2l) (n := 1) (pc' := 2) (st' := [.long ((n).toInt64)]) rfl rfl ?_
      refine wp_s (i := .lconst 0) (n := 1) (pc' := 3) (st' := [.long 0, .long ((n).toInt64)]) rfl rfl ?_
      refine wp_s (i := .aload_n 0) (n := 1) (pc' := 4) (st' := [.ref 114, .long 0, .long ((n).toInt64)]) rfl rfl ?_
      refine wp_gf (idx := 167) (a := 114) (v := .int 0) (pc' := 7) rfl rfl hb_114 rfl rfl ?_
      refine wp_s (i := .iconst 1) (n := 1) (pc' := 8) (st' := [.int 1, .int 0, .long 0, .long ((n).toInt64)]) rfl rfl ?_
      refine wp_s (i := .isub) (n := 1) (pc' := 9) (st' := [.int (-1), .long 0, .long ((n).toInt64)]) rfl rfl ?_
      refine wp_s (i := .i2l) (n := 1) (pc' := 10) (st' := [.long (-1), .long 0, .long ((n).toInt64)]) rfl rfl ?_
      refine wp_c (i := .invokestatic 81) (n := 3) (Dq := 10) (r' := mm_r120) (as := [.long ((n).toInt64), .long 0, .long (-1)]) (rest := []) (ls' := [some (.long ((n).toInt64)), none, some (.long 0), none, some (.long (-1)), none]) rfl rfl rfl ?_
      refine wp_s (i := .lload_n 0) (n := 1) (pc' := 1) (st' := [.long ((n).toInt64)]) rfl rfl ?_
      refine wp_s (i := .lload_n 2) (n := 1) (pc' := 2) (st' := [.long 0, .long ((n).toInt64)]) rfl rfl ?_
      refine wp_s (i := .lcmp) (n := 1) (pc' := 3) (st' := [.int (lg_cmp ((n).toInt64) 0)]) rfl rfl ?_
      refine wp_if (t := 17) (st := []) rfl rfl (fun hc4 => ?_) (fun hc4 => ?_)
      · skip
        have q4 : (n).toInt < 0 := by have := lc_t_lt hc4; simpa using this
        exfalso; omega
      · skip
        have q4 : (n).toInt ≥ 0 := by have := lc_f_lt hc4; simpa using this
        show mm_Wp _ _ _ 6 _ _ _ _
        refine wp_s (i := .lload_n 0) (n := 1) (pc' := 7) (st' := [.long ((n).toInt64)]) rfl rfl ?_
        refine wp_s (i := .lload 4) (n := 2) (pc' := 9) (st' := [.long (-1), .long ((n).toInt64)]) rfl rfl ?_
        refine wp_s (i := .lcmp) (n := 1) (pc' := 10) (st' := [.int (lg_cmp ((n).toInt64) (-1))]) rfl rfl ?_
        refine wp_if (t := 17) (st := []) rfl rfl (fun hc5 => ?_) (fun hc5 => ?_)
        · skip
          have q5 : (n).toInt > -1 := by have := lc_t_gt hc5; simpa using this
          show mm_Wp _ _ _ 17 _ _ _ _
          refine wp_s (i := .iconst 0) (n := 1) (pc' := 18) (st' := [.int 0]) rfl rfl ?_
          refine wp_r (i := .ireturn) (n := 1) (v := some (.int 0)) rfl rfl ?_
          show mm_Wp X 11 mm_r138 13 [some (.ref 114), some (.int n)] [.int 0] _ _
          refine wp_r (i := .ireturn) (n := 1) (v := some (.int 0)) rfl rfl ?_
          show mm_Wp X 12 mm_r144 5 [some (.ref 114), some (.int n), some (.int w), none] [.int 0] _ _
          refine wp_s (i := .ifCond .ne 5) (n := 3) (pc' := 8) (st' := []) rfl rfl ?_
          refine wp_s (i := .iconst (-1)) (n := 1) (pc' := 9) (st' := [.int (-1)]) rfl rfl ?_
          refine wp_r (i := .ireturn) (n := 1) (v := some (.int (-1))) rfl rfl ?_
          exact ⟨rfl, pk_ok0⟩
        · skip
          have q5 : (n).toInt ≤ -1 := by have := lc_f_gt hc5; simpa using this
          exfalso; omega
    · skip
      have q3 : (n).toInt < 0 := by have := mc_f_ge hc3; simpa using this
      exfalso; omega
set_option maxRecDepth 20000 in
set_option maxHeartbeats 4000000 in
theorem pk_9 (X : Option (List Int32)) (n w : Int32) : mm_Wp X 12 mm_r74 0 [some (.ref 0), some (.int n), some (.int w), none] [] hp_0 (fun v1 h1 => ∃ x : Int32, v1 = some (.int x) ∧ (∃ fs, h1[114]? = some (.inr (10, fs))) ∧ mm_Wp X 12 mm_r145 0 [some (.ref 114), some (.int n), some (.int w), none] [] h1 (fun v2 h2 => v2 = some (.int x) ∧ pk_ok h2)) := by
  refine wp_s (i := .aload_n 0) (n := 1) (pc' := 1) (st' := [.ref 0]) rfl rfl ?_
  refine wp_s (i := .iload_n 1) (n := 1) (pc' := 2) (st' := [.int n, .ref 0]) rfl rfl ?_
  refine wp_c (i := .invokevirtual 146) (n := 3) (Dq := 11) (r' := mm_r104) (as := [.ref 0, .int n]) (rest := []) (ls' := [some (.ref 0), some (.int n)]) rfl rfl rfl ?_
  refine wp_s (i := .iload_n 1) (n := 1) (pc' := 1) (st' := [.int n]) rfl rfl ?_
  refine wp_if (t := 19) (st := []) rfl rfl (fun hc1 => ?_) (fun hc1 => ?_)
  · skip
    have q1 : (n).toInt < 0 := by have := mc_t_lt hc1; simpa using this
    show mm_Wp _ _ _ 19 _ _ _ _
    refine wp_s (i := .iconst 0) (n := 1) (pc' := 20) (st' := [.int 0]) rfl rfl ?_
    refine wp_r (i := .ireturn) (n := 1) (v := some (.int 0)) rfl rfl ?_
    show mm_Wp X 12 mm_r74 5 [some (.ref 0), some (.int n), some (.int w), none] [.int 0] _ _
    refine wp_s (i := .ifCond .eq 12) (n := 3) (pc' := 17) (st' := []) rfl rfl ?_
    refine wp_s (i := .iconst (-1)) (n := 1) (pc' := 18) (st' := [.int (-1)]) rfl rfl ?_
    refine wp_r (i := .ireturn) (n := 1) (v := some (.int (-1))) rfl rfl ?_
    refine ⟨(-1), rfl, ⟨_, hb_114⟩, ?_⟩
    show mm_Wp X 12 mm_r145 0 [some (.ref 114), some (.int n), some (.int w), none] [] _ _
    refine wp_s (i := .aload_n 0) (n := 1) (pc' := 1) (st' := [.ref 114]) rfl rfl ?_
    refine wp_s (i := .iload_n 1) (n := 1) (pc' := 2) (st' := [.int n, .ref 114]) rfl rfl ?_
    refine wp_c (i := .invokevirtual 195) (n := 3) (Dq := 11) (r' := mm_r139) (as := [.ref 114, .int n]) (rest := []) (ls' := [some (.ref 114), some (.int n)]) rfl rfl rfl ?_
    refine wp_s (i := .iload_n 1) (n := 1) (pc' := 1) (st' := [.int n]) rfl rfl ?_
    refine wp_s (i := .i2l) (n := 1) (pc' := 2) (st' := [.long ((n).toInt64)]) rfl rfl ?_
    refine wp_s (i := .lconst 0) (n := 1) (pc' := 3) (st' := [.long 0, .long ((n).toInt64)]) rfl rfl ?_
    refine wp_s (i := .aload_n 0) (n := 1) (pc' := 4) (st' := [.ref 114, .long 0, .long ((n).toInt64)]) rfl rfl ?_
    refine wp_gf (idx := 170) (a := 114) (v := .int 0) (pc' := 7) rfl rfl hb_114 rfl rfl ?_
    refine wp_s (i := .iconst 1) (n := 1) (pc' := 8) (st' := [.int 1, .int 0, .long 0, .long ((n).toInt64)]) rfl rfl ?_
    refine wp_s (i := .isub) (n := 1) (pc' := 9) (st' := [.int (-1), .long 0, .long ((n).toInt64)]) rfl rfl ?_
    refine wp_s (i := .i2l) (n := 1) (pc' := 10) (st' := [.long (-1), .long 0, .long ((n).toInt64)]) rfl rfl ?_
    refine wp_c (i := .invokestatic 81) (n := 3) (Dq := 10) (r' := mm_r120) (as := [.long ((n).toInt64), .long 0, .long (-1)]) (rest := []) (ls' := [some (.long ((n).toInt64)), none, some (.long 0), none, some (.long (-1)), none]) rfl rfl rfl ?_
    refine wp_s (i := .lload_n 0) (n := 1) (pc' := 1) (st' := [.long ((n).toInt64)]) rfl rfl ?_
    refine wp_s (i := .lload_n 2) (n := 1) (pc' := 2) (st' := [.long 0, .long ((n).toInt64)]) rfl rfl ?_
    refine wp_s (i := .lcmp) (n := 1) (pc' := 3) (st' := [.int (lg_cmp ((n).toInt64) 0)]) rfl rfl ?_
    refine wp_if (t := 17) (st := []) rfl rfl (fun hc2 => ?_) (fun hc2 => ?_)
    · skip
      have q2 : (n).toInt < 0 := by have := lc_t_lt hc2; simpa using this
      show mm_Wp _ _ _ 17 _ _ _ _
      refine wp_s (i := .iconst 0) (n := 1) (pc' := 18) (st' := [.int 0]) rfl rfl ?_
      refine wp_r (i := .ireturn) (n := 1) (v := some (.int 0)) rfl rfl ?_
      show mm_Wp X 11 mm_r139 13 [some (.ref 114), some (.int n)] [.int 0] _ _
      refine wp_r (i := .ireturn) (n := 1) (v := some (.int 0)) rfl rfl ?_
      show mm_Wp X 12 mm_r145 5 [some (.ref 114), some (.int n), some (.int w), none] [.int 0] _ _
      refine wp_s (i := .ifCond .eq 12) (n := 3) (pc' := 17) (st' := []) rfl rfl ?_
      refine wp_s (i := .iconst (-1)) (n := 1) (pc' := 18) (st' := [.int (-1)]) rfl rfl ?_
      refine wp_r (i := .ireturn) (n := 1) (v := some (.int (-1))) rfl rfl ?_
      exact ⟨rfl, pk_ok0⟩
    · skip
      have q2 : (n).toInt ≥ 0 := by have := lc_f_lt hc2; simpa using this
      exfalso; omega
  · skip
    have q1 : (n).toInt ≥ 0 := by have := mc_f_lt hc1; simpa using this
    show mm_Wp _ _ _ 4 _ _ _ _
    refine wp_s (i := .iload_n 1) (n := 1) (pc' := 5) (st' := [.int n]) rfl rfl ?_
    refine wp_s (i := .aload_n 0) (n := 1) (pc' := 6) (st' := [.ref 0, .int n]) rfl rfl ?_
    refine wp_gf (idx := 24) (a := 0) (v := .ref 25) (pc' := 9) rfl rfl hb_0 rfl rfl ?_
    refine wp_gf (idx := 114) (a := 25) (v := .int 0) (pc' := 12) rfl rfl hb_25 rfl rfl ?_
    refine wp_ic (t := 19) (st := []) rfl rfl (fun hc3 => ?_) (fun hc3 => ?_)
    · skip
      have q3 : (n).toInt ≥ 0 := by have := mc_t_ge hc3; simpa using this
      show mm_Wp _ _ _ 19 _ _ _ _
      refine wp_s (i := .iconst 0) (n := 1) (pc' := 20) (st' := [.int 0]) rfl rfl ?_
      refine wp_r (i := .ireturn) (n := 1) (v := some (.int 0)) rfl rfl ?_
      show mm_Wp X 12 mm_r74 5 [some (.ref 0), some (.int n), some (.int w), none] [.int 0] _ _
      refine wp_s (i := .ifCond .eq 12) (n := 3) (pc' := 17) (st' := []) rfl rfl ?_
      refine wp_s (i := .iconst (-1)) (n := 1) (pc' := 18) (st' := [.int (-1)]) rfl rfl ?_
      refine wp_r (i := .ireturn) (n := 1) (v := some (.int (-1))) rfl rfl ?_
      refine ⟨(-1), rfl, ⟨_, hb_114⟩, ?_⟩
      show mm_Wp X 12 mm_r145 0 [some (.ref 114), some (.int n), some (.int w), none] [] _ _
      refine wp_s (i := .aload_n 0) (n := 1) (pc' := 1) (st' := [.ref 114]) rfl rfl ?_
      refine wp_s (i := .iload_n 1) (n := 1) (pc' := 2) (st' := [.int n, .ref 114]) rfl rfl ?_
      refine wp_c (i := .invokevirtual 195) (n := 3) (Dq := 11) (r' := mm_r139) (as := [.ref 114, .int n]) (rest := []) (ls' := [some (.ref 114), some (.int n)]) rfl rfl rfl ?_
      refine wp_s (i := .iload_n 1) (n := 1) (pc' := 1) (st' := [.int n]) rfl rfl ?_
      refine wp_s (i := .i2l) (n := 1) (pc' := 2) (st' := [.long ((n).toInt64)]) rfl rfl ?_
      refine wp_s (i := .lconst 0) (n := 1) (pc' := 3) (st' := [.long 0, .long ((n).toInt64)]) rfl rfl ?_
      refine wp_s (i := .aload_n 0) (n := 1) (pc' := 4) (st' := [.ref 114, .long 0, .long ((n).toInt64)]) rfl rfl ?_
      refine wp_gf (idx := 170) (a := 114) (v := .int 0) (pc' := 7) rfl rfl hb_114 rfl rfl ?_
      refine wp_s (i := .iconst 1) (n := 1) (pc' := 8) (st' := [.int 1, .int 0, .long 0, .long ((n).toInt64)]) rfl rfl ?_
      refine wp_s (i := .isub) (n := 1) (pc' := 9) (st' := [.int (-1), .long 0, .long ((n).toInt64)]) rfl rfl ?_
      refine wp_s (i := .i2l) (n := 1) (pc' := 10) (st' := [.long (-1), .long 0, .long ((n).toInt64)]) rfl rfl ?_
      refine wp_c (i := .invokestatic 81) (n := 3) (Dq := 10) (r' := mm_r120) (as := [.long ((n).toInt64), .long 0, .long (-1)]) (rest := []) (ls' := [some (.long ((n).toInt64)), none, some (.long 0), none, some (.long (-1)), none]) rfl rfl rfl ?_
      refine wp_s (i := .lload_n 0) (n := 1) (pc' := 1) (st' := [.long ((n).toInt64)]) rfl rfl ?_
      refine wp_s (i := .lload_n 2) (n := 1) (pc' := 2) (st' := [.long 0, .long ((n).toInt64)]) rfl rfl ?_
      refine wp_s (i := .lcmp) (n := 1) (pc' := 3) (st' := [.int (lg_cmp ((n).toInt64) 0)]) rfl rfl ?_
      refine wp_if (t := 17) (st := []) rfl rfl (fun hc4 => ?_) (fun hc4 => ?_)
      · skip
        have q4 : (n).toInt < 0 := by have := lc_t_lt hc4; simpa using this
        exfalso; omega
      · skip
        have q4 : (n).toInt ≥ 0 := by have := lc_f_lt hc4; simpa using this
        show mm_Wp _ _ _ 6 _ _ _ _
        refine wp_s (i := .lload_n 0) (n := 1) (pc' := 7) (st' := [.long ((n).toInt64)]) rfl rfl ?_
        refine wp_s (i := .lload 4) (n := 2) (pc' := 9) (st' := [.long (-1), .long ((n).toInt64)]) rfl rfl ?_
        refine wp_s (i := .lcmp) (n := 1) (pc' := 10) (st' := [.int (lg_cmp ((n).toInt64) (-1))]) rfl rfl ?_
        refine wp_if (t := 17) (st := []) rfl rfl (fun hc5 => ?_) (fun hc5 => ?_)
        · skip
          have q5 : (n).toInt > -1 := by have := lc_t_gt hc5; simpa using this
          show mm_Wp _ _ _ 17 _ _ _ _
          refine wp_s (i := .iconst 0) (n := 1) (pc' := 18) (st' := [.int 0]) rfl rfl ?_
          refine wp_r (i := .ireturn) (n := 1) (v := some (.int 0)) rfl rfl ?_
          show mm_Wp X 11 mm_r139 13 [some (.ref 114), some (.int n)] [.int 0] _ _
          refine wp_r (i := .ireturn) (n := 1) (v := some (.int 0)) rfl rfl ?_
          show mm_Wp X 12 mm_r145 5 [some (.ref 114), some (.int n), some (.int w), none] [.int 0] _ _
          refine wp_s (i := .ifCond .eq 12) (n := 3) (pc' := 17) (st' := []) rfl rfl ?_
          refine wp_s (i := .iconst (-1)) (n := 1) (pc' := 18) (st' := [.int (-1)]) rfl rfl ?_
          refine wp_r (i := .ireturn) (n := 1) (v := some (.int (-1))) rfl rfl ?_
          exact ⟨rfl, pk_ok0⟩
        · skip
          have q5 : (n).toInt ≤ -1 := by have := lc_f_gt hc5; simpa using this
          exfalso; omega
    · skip
      have q3 : (n).toInt < 0 := by have := mc_f_ge hc3; simpa using this
      exfalso; omega
