set_option maxRecDepth 20000 in
theorem md_g0 : mm_Good mm_r0 := mm_good_of (by decide +kernel) (by decide +kernel)
set_option maxRecDepth 20000 in
theorem md_c0 : mm_GoodC mm_r0 := mm_goodC_of md_g0 (by decide +kernel) (by decide +kernel) rfl (by simp [goodWord, Cond.onTables, Cond.keeps, Cond.steady])
set_option maxRecDepth 20000 in
theorem md_g1 : mm_Good mm_r1 := mm_good_of (by decide +kernel) (by decide +kernel)
set_option maxRecDepth 20000 in
theorem md_c1 : mm_GoodC mm_r1 := mm_goodC_of md_g1 (by decide +kernel) (by decide +kernel) rfl (by simp [goodWord, Cond.onTables, Cond.keeps, Cond.steady])
set_option maxRecDepth 20000 in
theorem md_g2 : mm_Good mm_r2 := mm_good_of (by decide +kernel) (by decide +kernel)
set_option maxRecDepth 20000 in
theorem md_c2 : mm_GoodC mm_r2 := mm_goodC_of md_g2 (by decide +kernel) (by decide +kernel) rfl (by simp [goodWord, Cond.onTables, Cond.keeps, Cond.steady])
set_option maxRecDepth 20000 in
theorem md_g3 : mm_Good mm_r3 := mm_good_of (by decide +kernel) (by decide +kernel)
set_option maxRecDepth 20000 in
theorem md_c3 : mm_GoodC mm_r3 := mm_goodC_of md_g3 (by decide +kernel) (by decide +kernel) rfl (by simp [goodWord, Cond.onTables, Cond.keeps, Cond.steady])
set_option maxRecDepth 20000 in
theorem md_g4 : mm_Good mm_r4 := mm_good_of (by decide +kernel) (by decide +kernel)
set_option maxRecDepth 20000 in
theorem md_c4 : mm_GoodC mm_r4 := mm_goodC_of md_g4 (by decide +kernel) (by decide +kernel) rfl (by simp [goodWord, Cond.onTables, Cond.keeps, Cond.steady])
set_option maxRecDepth 20000 in
theorem md_g5 : mm_Good mm_r5 := mm_good_of (by decide +kernel) (by decide +kernel)
set_option maxRecDepth 20000 in
theorem md_c5 : mm_GoodC mm_r5 := mm_goodC_of md_g5 (by decide +kernel) (by decide +kernel) rfl (by simp [goodWord, Cond.onTables, Cond.keeps, Cond.steady])
set_option maxRecDepth 20000 in
theorem md_g6 : mm_Good mm_r6 := mm_good_of (by decide +kernel) (by decide +kernel)
set_option maxRecDepth 20000 in
theorem md_c6 : mm_GoodC mm_r6 := mm_goodC_of md_g6 (by decide +kernel) (by decide +kernel) rfl (by simp [goodWord, Cond.onTables, Cond.keeps, Cond.steady])
set_option maxRecDepth 20000 in
theorem md_g7 : mm_Good mm_r7 := mm_good_of (by decide +kernel) (by decide +kernel)
set_option maxRecDepth 20000 in
theorem md_c7 : mm_GoodC mm_r7 := mm_goodC_of md_g7 (by decide +kernel) (by decide +kernel) rfl (by simp [goodWord, Cond.onTables, Cond.keeps, Cond.steady])
set_option maxRecDepth 20000 in
theorem md_g8 : mm_Good mm_r8 := mm_good_of (by decide +kernel) (by decide +kernel)
set_option maxRecDepth 20000 in
theorem md_c8 : mm_GoodC mm_r8 := mm_goodC_of md_g8 (by decide +kernel) (by decide +kernel) rfl (by simp [goodWord, Cond.onTables, Cond.keeps, Cond.steady])
set_option maxRecDepth 20000 in
theorem md_g9 : mm_Good mm_r9 := mm_good_of (by decide +kernel) (by decide +kernel)
set_option maxRecDepth 20000 in
theorem md_c9 : mm_GoodC mm_r9 := mm_goodC_of md_g9 (by decide +kernel) (by decide +kernel) rfl (by simp [goodWord, Cond.onTables, Cond.keeps, Cond.steady])
set_option maxRecDepth 20000 in
theorem md_g10 : mm_Good mm_r10 := mm_good_of (by decide +kernel) (by decide +kernel)
set_option maxRecDepth 20000 in
theorem md_c10 : mm_GoodC mm_r10 := mm_goodC_of md_g10 (by decide +kernel) (by decide +kernel) rfl (by simp [goodWord, Cond.onTables, Cond.keeps, Cond.steady])
set_option maxRecDepth 20000 in
theorem md_g11 : mm_Good mm_r11 := mm_good_of (by decide +kernel) (by decide +kernel)
set_option maxRecDepth 20000 in
theorem md_c11 : mm_GoodC mm_r11 := mm_goodC_of md_g11 (by decide +kernel) (by decide +kernel) rfl (by simp [goodWord, Cond.onTables, Cond.keeps, Cond.steady])
set_option maxRecDepth 20000 in
theorem md_g12 : mm_Good mm_r12 := mm_good_of (by decide +kernel) (by decide +kernel)
set_option maxRecDepth 20000 in
theorem md_c12 : mm_GoodC mm_r12 := mm_goodC_of md_g12 (by decide +kernel) (by decide +kernel) rfl (by simp [goodWord, Cond.onTables, Cond.keeps, Cond.steady])
set_option maxRecDepth 20000 in
theorem md_g13 : mm_Good mm_r13 := mm_good_of (by decide +kernel) (by decide +kernel)
set_option maxRecDepth 20000 in
theorem md_c13 : mm_GoodC mm_r13 := mm_goodC_of md_g13 (by decide +kernel) (by decide +kernel) rfl (by simp [goodWord, Cond.onTables, Cond.keeps, Cond.steady])
set_option maxRecDepth 20000 in
theorem md_g14 : mm_Good mm_r14 := mm_good_of (by decide +kernel) (by decide +kernel)
set_option maxRecDepth 20000 in
theorem md_c14 : mm_GoodC mm_r14 := mm_goodC_of md_g14 (by decide +kernel) (by decide +kernel) rfl (by simp [goodWord, Cond.onTables, Cond.keeps, Cond.steady])
set_option maxRecDepth 20000 in
theorem md_g15 : mm_Good mm_r15 := mm_good_of (by decide +kernel) (by decide +kernel)
set_option maxRecDepth 20000 in
theorem md_c15 : mm_GoodC mm_r15 := mm_goodC_of md_g15 (by decide +kernel) (by decide +kernel) rfl (by simp [goodWord, Cond.onTables, Cond.keeps, Cond.steady])
set_option maxRecDepth 20000 in
theorem md_g16 : mm_Good mm_r16 := mm_good_of (by decide +kernel) (by decide +kernel)
set_option maxRecDepth 20000 in
theorem md_c16 : mm_GoodC mm_r16 := mm_goodC_of md_g16 (by decide +kernel) (by decide +kernel) rfl (by simp [goodWord, Cond.onTables, Cond.keeps, Cond.steady])
set_option maxRecDepth 20000 in
theorem md_g17 : mm_Good mm_r17 := mm_good_of (by decide +kernel) (by decide +kernel)
set_option maxRecDepth 20000 in
theorem md_c17 : mm_GoodC mm_r17 := mm_goodC_of md_g17 (by decide +kernel) (by decide +kernel) rfl (by simp [goodWord, Cond.onTables, Cond.keeps, Cond.steady])
set_option maxRecDepth 20000 in
theorem md_g18 : mm_Good mm_r18 := mm_good_of (by decide +kernel) (by decide +kernel)
set_option maxRecDepth 20000 in
theorem md_c18 : mm_GoodC mm_r18 := mm_goodC_of md_g18 (by decide +kernel) (by decide +kernel) rfl (by simp [goodWord, Cond.onTables, Cond.keeps, Cond.steady])
set_option maxRecDepth 20000 in
theorem md_g19 : mm_Good mm_r19 := mm_good_of (by decide +kernel) (by decide +kernel)
set_option maxRecDepth 20000 in
theorem md_c19 : mm_GoodC mm_r19 := mm_goodC_of md_g19 (by decide +kernel) (by decide +kernel) rfl (by simp [goodWord, Cond.onTables, Cond.keeps, Cond.steady])
set_option maxRecDepth 20000 in
theorem md_g20 : mm_Good mm_r20 := mm_good_of (by decide +kernel) (by decide +kernel)
set_option maxRecDepth 20000 in
theorem md_c20 : mm_GoodC mm_r20 := mm_goodC_of md_g20 (by decide +kernel) (by decide +kernel) rfl (by simp [goodWord, Cond.onTables, Cond.keeps, Cond.steady])
set_option maxRecDepth 20000 in
theorem md_g21 : mm_Good mm_r21 := mm_good_of (by decide +kernel) (by decide +kernel)
set_option maxRecDepth 20000 in
theorem md_c21 : mm_GoodC mm_r21 := mm_goodC_of md_g21 (by decide +kernel) (by decide +kernel) rfl (by simp [goodWord, Cond.onTables, Cond.keeps, Cond.steady])
set_option maxRecDepth 20000 in
theorem md_g22 : mm_Good mm_r22 := mm_good_of (by decide +kernel) (by decide +kernel)
set_option maxRecDepth 20000 in
theorem md_c22 : mm_GoodC mm_r22 := mm_goodC_of md_g22 (by decide +kernel) (by decide +kernel) rfl (by simp [goodWord, Cond.onTables, Cond.keeps, Cond.steady])
set_option maxRecDepth 20000 in
theorem md_g23 : mm_Good mm_r23 := mm_good_of (by decide +kernel) (by decide +kernel)
set_option maxRecDepth 20000 in
theorem md_c23 : mm_GoodC mm_r23 := mm_goodC_of md_g23 (by decide +kernel) (by decide +kernel) rfl (by simp [goodWord, Cond.onTables, Cond.keeps, Cond.steady])
set_option maxRecDepth 20000 in
theorem md_g24 : mm_Good mm_r24 := mm_good_of (by decide +kernel) (by decide +kernel)
set_option maxRecDepth 20000 in
theorem md_c24 : mm_GoodC mm_r24 := mm_goodC_of md_g24 (by decide +kernel) (by decide +kernel) rfl (by simp [goodWord, Cond.onTables, Cond.keeps, Cond.steady])
set_option maxRecDepth 20000 in
theorem md_g25 : mm_Good mm_r25 := mm_good_of (by decide +kernel) (by decide +kernel)
set_option maxRecDepth 20000 in
theorem md_c25 : mm_GoodC mm_r25 := mm_goodC_of md_g25 (by decide +kernel) (by decide +kernel) rfl (by simp [goodWord, Cond.onTables, Cond.keeps, Cond.steady])
set_option maxRecDepth 20000 in
theorem md_g26 : mm_Good mm_r26 := mm_good_of (by decide +kernel) (by decide +kernel)
set_option maxRecDepth 20000 in
theorem md_c26 : mm_GoodC mm_r26 := mm_goodC_of md_g26 (by decide +kernel) (by decide +kernel) rfl (by simp [goodWord, Cond.onTables, Cond.keeps, Cond.steady])
set_option maxRecDepth 20000 in
theorem md_g27 : mm_Good mm_r27 := mm_good_of (by decide +kernel) (by decide +kernel)
set_option maxRecDepth 20000 in
theorem md_c27 : mm_GoodC mm_r27 := mm_goodC_of md_g27 (by decide +kernel) (by decide +kernel) rfl (by simp [goodWord, Cond.onTables, Cond.keeps, Cond.steady])
set_option maxRecDepth 20000 in
theorem md_g28 : mm_Good mm_r28 := mm_good_of (by decide +kernel) (by decide +kernel)
set_option maxRecDepth 20000 in
theorem md_c28 : mm_GoodC mm_r28 := mm_goodC_of md_g28 (by decide +kernel) (by decide +kernel) rfl (by simp [goodWord, Cond.onTables, Cond.keeps, Cond.steady])
set_option maxRecDepth 20000 in
theorem md_g29 : mm_Good mm_r29 := mm_good_of (by decide +kernel) (by decide +kernel)
set_option maxRecDepth 20000 in
theorem md_c29 : mm_GoodC mm_r29 := mm_goodC_of md_g29 (by decide +kernel) (by decide +kernel) rfl (by simp [goodWord, Cond.onTables, Cond.keeps, Cond.steady])
set_option maxRecDepth 20000 in
theorem md_g30 : mm_Good mm_r30 := mm_good_of (by decide +kernel) (by decide +kernel)
set_option maxRecDepth 20000 in
theorem md_c30 : mm_GoodC mm_r30 := mm_goodC_of md_g30 (by decide +kernel) (by decide +kernel) rfl (by simp [goodWord, Cond.onTables, Cond.keeps, Cond.steady])
set_option maxRecDepth 20000 in
theorem md_g31 : mm_Good mm_r31 := mm_good_of (by decide +kernel) (by decide +kernel)
set_option maxRecDepth 20000 in
theorem md_c31 : mm_GoodC mm_r31 := mm_goodC_of md_g31 (by decide +kernel) (by decide +kernel) rfl (by simp [goodWord, Cond.onTables, Cond.keeps, Cond.steady])
set_option maxRecDepth 20000 in
theorem md_g32 : mm_Good mm_r32 := mm_good_of (by decide +kernel) (by decide +kernel)
set_option maxRecDepth 20000 in
theorem md_c32 : mm_GoodC mm_r32 := mm_goodC_of md_g32 (by decide +kernel) (by decide +kernel) rfl (by simp [goodWord, Cond.onTables, Cond.keeps, Cond.steady])
set_option maxRecDepth 20000 in
theorem md_g33 : mm_Good mm_r33 := mm_good_of (by decide +kernel) (by decide +kernel)
set_option maxRecDepth 20000 in
theorem md_c33 : mm_GoodC mm_r33 := mm_goodC_of md_g33 (by decide +kernel) (by decide +kernel) rfl (by simp [goodWord, Cond.onTables, Cond.keeps, Cond.steady])
set_option maxRecDepth 20000 in
theorem md_g34 : mm_Good mm_r34 := mm_good_of (by decide +kernel) (by decide +kernel)
set_option maxRecDepth 20000 in
theorem md_c34 : mm_GoodC mm_r34 := mm_goodC_of md_g34 (by decide +kernel) (by decide +kernel) rfl (by simp [goodWord, Cond.onTables, Cond.keeps, Cond.steady])
set_option maxRecDepth 20000 in
theorem md_g35 : mm_Good mm_r35 := mm_good_of (by decide +kernel) (by decide +kernel)
set_option maxRecDepth 20000 in
theorem md_c35 : mm_GoodC mm_r35 := mm_goodC_of md_g35 (by decide +kernel) (by decide +kernel) rfl (by simp [goodWord, Cond.onTables, Cond.keeps, Cond.steady])
set_option maxRecDepth 20000 in
theorem md_g36 : mm_Good mm_r36 := mm_good_of (by decide +kernel) (by decide +kernel)
set_option maxRecDepth 20000 in
theorem md_c36 : mm_GoodC mm_r36 := mm_goodC_of md_g36 (by decide +kernel) (by decide +kernel) rfl (by simp [goodWord, Cond.onTables, Cond.keeps, Cond.steady])
set_option maxRecDepth 20000 in
theorem md_g37 : mm_Good mm_r37 := mm_good_of (by decide +kernel) (by decide +kernel)
set_option maxRecDepth 20000 in
theorem md_c37 : mm_GoodC mm_r37 := mm_goodC_of md_g37 (by decide +kernel) (by decide +kernel) rfl (by simp [goodWord, Cond.onTables, Cond.keeps, Cond.steady])
set_option maxRecDepth 20000 in
theorem md_g38 : mm_Good mm_r38 := mm_good_of (by decide +kernel) (by decide +kernel)
set_option maxRecDepth 20000 in
theorem md_c38 : mm_GoodC mm_r38 := mm_goodC_of md_g38 (by decide +kernel) (by decide +kernel) rfl (by simp [goodWord, Cond.onTables, Cond.keeps, Cond.steady])
set_option maxRecDepth 20000 in
theorem md_g39 : mm_Good mm_r39 := mm_good_of (by decide +kernel) (by decide +kernel)
set_option maxRecDepth 20000 in
theorem md_c39 : mm_GoodC mm_r39 := mm_goodC_of md_g39 (by decide +kernel) (by decide +kernel) rfl (by simp [goodWord, Cond.onTables, Cond.keeps, Cond.steady])
set_option maxRecDepth 20000 in
theorem md_g40 : mm_Good mm_r40 := mm_good_of (by decide +kernel) (by decide +kernel)
set_option maxRecDepth 20000 in
theorem md_c40 : mm_GoodC mm_r40 := mm_goodC_of md_g40 (by decide +kernel) (by decide +kernel) rfl (by simp [goodWord, Cond.onTables, Cond.keeps, Cond.steady])
set_option maxRecDepth 20000 in
theorem md_g41 : mm_Good mm_r41 := mm_good_of (by decide +kernel) (by decide +kernel)
set_option maxRecDepth 20000 in
theorem md_c41 : mm_GoodC mm_r41 := mm_goodC_of md_g41 (by decide +kernel) (by decide +kernel) rfl (by simp [goodWord, Cond.onTables, Cond.keeps, Cond.steady])
set_option maxRecDepth 20000 in
theorem md_g42 : mm_Good mm_r42 := mm_good_of (by decide +kernel) (by decide +kernel)
set_option maxRecDepth 20000 in
theorem md_c42 : mm_GoodC mm_r42 := mm_goodC_of md_g42 (by decide +kernel) (by decide +kernel) rfl (by simp [goodWord, Cond.onTables, Cond.keeps, Cond.steady])
set_option maxRecDepth 20000 in
theorem md_g43 : mm_Good mm_r43 := mm_good_of (by decide +kernel) (by decide +kernel)
set_option maxRecDepth 20000 in
theorem md_c43 : mm_GoodC mm_r43 := mm_goodC_of md_g43 (by decide +kernel) (by decide +kernel) rfl (by simp [goodWord, Cond.onTables, Cond.keeps, Cond.steady])
set_option maxRecDepth 20000 in
theorem md_g44 : mm_Good mm_r44 := mm_good_of (by decide +kernel) (by decide +kernel)
set_option maxRecDepth 20000 in
theorem md_c44 : mm_GoodC mm_r44 := mm_goodC_of md_g44 (by decide +kernel) (by decide +kernel) rfl (by simp [goodWord, Cond.onTables, Cond.keeps, Cond.steady])
set_option maxRecDepth 20000 in
theorem md_g45 : mm_Good mm_r45 := mm_good_of (by decide +kernel) (by decide +kernel)
set_option maxRecDepth 20000 in
theorem md_c45 : mm_GoodC mm_r45 := mm_goodC_of md_g45 (by decide +kernel) (by decide +kernel) rfl (by simp [goodWord, Cond.onTables, Cond.keeps, Cond.steady])
set_option maxRecDepth 20000 in
theorem md_g46 : mm_Good mm_r46 := mm_good_of (by decide +kernel) (by decide +kernel)
set_option maxRecDepth 20000 in
theorem md_c46 : mm_GoodC mm_r46 := mm_goodC_of md_g46 (by decide +kernel) (by decide +kernel) rfl (by simp [goodWord, Cond.onTables, Cond.keeps, Cond.steady])
set_option maxRecDepth 20000 in
theorem md_g47 : mm_Good mm_r47 := mm_good_of (by decide +kernel) (by decide +kernel)
set_option maxRecDepth 20000 in
theorem md_c47 : mm_GoodC mm_r47 := mm_goodC_of md_g47 (by decide +kernel) (by decide +kernel) rfl (by simp [goodWord, Cond.onTables, Cond.keeps, Cond.steady])
set_option maxRecDepth 20000 in
theorem md_g48 : mm_Good mm_r48 := mm_good_of (by decide +kernel) (by decide +kernel)
set_option maxRecDepth 20000 in
theorem md_c48 : mm_GoodC mm_r48 := mm_goodC_of md_g48 (by decide +kernel) (by decide +kernel) rfl (by simp [goodWord, Cond.onTables, Cond.keeps, Cond.steady])
set_option maxRecDepth 20000 in
theorem md_g49 : mm_Good mm_r49 := mm_good_of (by decide +kernel) (by decide +kernel)
set_option maxRecDepth 20000 in
theorem md_c49 : mm_GoodC mm_r49 := mm_goodC_of md_g49 (by decide +kernel) (by decide +kernel) rfl (by simp [goodWord, Cond.onTables, Cond.keeps, Cond.steady])
set_option maxRecDepth 20000 in
theorem md_g50 : mm_Good mm_r50 := mm_good_of (by decide +kernel) (by decide +kernel)
set_option maxRecDepth 20000 in
theorem md_c50 : mm_GoodC mm_r50 := mm_goodC_of md_g50 (by decide +kernel) (by decide +kernel) rfl (by simp [goodWord, Cond.onTables, Cond.keeps, Cond.steady])
set_option maxRecDepth 20000 in
theorem md_g51 : mm_Good mm_r51 := mm_good_of (by decide +kernel) (by decide +kernel)
set_option maxRecDepth 20000 in
theorem md_c51 : mm_GoodC mm_r51 := mm_goodC_of md_g51 (by decide +kernel) (by decide +kernel) rfl (by simp [goodWord, Cond.onTables, Cond.keeps, Cond.steady])
set_option maxRecDepth 20000 in
theorem md_g52 : mm_Good mm_r52 := mm_good_of (by decide +kernel) (by decide +kernel)
set_option maxRecDepth 20000 in
theorem md_c52 : mm_GoodC mm_r52 := mm_goodC_of md_g52 (by decide +kernel) (by decide +kernel) rfl (by simp [goodWord, Cond.onTables, Cond.keeps, Cond.steady])
set_option maxRecDepth 20000 in
theorem md_g53 : mm_Good mm_r53 := mm_good_of (by decide +kernel) (by decide +kernel)
set_option maxRecDepth 20000 in
theorem md_c53 : mm_GoodC mm_r53 := mm_goodC_of md_g53 (by decide +kernel) (by decide +kernel) rfl (by simp [goodWord, Cond.onTables, Cond.keeps, Cond.steady])
