set_option maxRecDepth 20000 in
theorem md_g54 : mm_Good mm_r54 := mm_good_of (by decide +kernel) (by decide +kernel)
set_option maxRecDepth 20000 in
theorem md_c54 : mm_GoodC mm_r54 := mm_goodC_of md_g54 (by decide +kernel) (by decide +kernel) rfl (by simp [goodWord, Cond.onTables, Cond.keeps, Cond.steady])
set_option maxRecDepth 20000 in
theorem md_g55 : mm_Good mm_r55 := mm_good_of (by decide +kernel) (by decide +kernel)
set_option maxRecDepth 20000 in
theorem md_c55 : mm_GoodC mm_r55 := mm_goodC_of md_g55 (by decide +kernel) (by decide +kernel) rfl (by simp [goodWord, Cond.onTables, Cond.keeps, Cond.steady])
set_option maxRecDepth 20000 in
theorem md_g56 : mm_Good mm_r56 := mm_good_of (by decide +kernel) (by decide +kernel)
set_option maxRecDepth 20000 in
theorem md_c56 : mm_GoodC mm_r56 := mm_goodC_of md_g56 (by decide +kernel) (by decide +kernel) rfl (by simp [goodWord, Cond.onTables, Cond.keeps, Cond.steady])
set_option maxRecDepth 20000 in
theorem md_g57 : mm_Good mm_r57 := mm_good_of (by decide +kernel) (by decide +kernel)
set_option maxRecDepth 20000 in
theorem md_c57 : mm_GoodC mm_r57 := mm_goodC_of md_g57 (by decide +kernel) (by decide +kernel) rfl (by simp [goodWord, Cond.onTables, Cond.keeps, Cond.steady])
set_option maxRecDepth 20000 in
theorem md_g58 : mm_Good mm_r58 := mm_good_of (by decide +kernel) (by decide +kernel)
set_option maxRecDepth 20000 in
theorem md_c58 : mm_GoodC mm_r58 := mm_goodC_of md_g58 (by decide +kernel) (by decide +kernel) rfl (by simp [goodWord, Cond.onTables, Cond.keeps, Cond.steady])
set_option maxRecDepth 20000 in
theorem md_g59 : mm_Good mm_r59 := mm_good_of (by decide +kernel) (by decide +kernel)
set_option maxRecDepth 20000 in
theorem md_c59 : mm_GoodC mm_r59 := mm_goodC_of md_g59 (by decide +kernel) (by decide +kernel) rfl (by simp [goodWord, Cond.onTables, Cond.keeps, Cond.steady])
set_option maxRecDepth 20000 in
theorem md_g60 : mm_Good mm_r60 := mm_good_of (by decide +kernel) (by decide +kernel)
set_option maxRecDepth 20000 in
theorem md_c60 : mm_GoodC mm_r60 := mm_goodC_of md_g60 (by decide +kernel) (by decide +kernel) rfl (by simp [goodWord, Cond.onTables, Cond.keeps, Cond.steady])
set_option maxRecDepth 20000 in
theorem md_g61 : mm_Good mm_r61 := mm_good_of (by decide +kernel) (by decide +kernel)
set_option maxRecDepth 20000 in
theorem md_c61 : mm_GoodC mm_r61 := mm_goodC_of md_g61 (by decide +kernel) (by decide +kernel) rfl (by simp [goodWord, Cond.onTables, Cond.keeps, Cond.steady])
set_option maxRecDepth 20000 in
theorem md_g62 : mm_Good mm_r62 := mm_good_of (by decide +kernel) (by decide +kernel)
set_option maxRecDepth 20000 in
theorem md_c62 : mm_GoodC mm_r62 := mm_goodC_of md_g62 (by decide +kernel) (by decide +kernel) rfl (by simp [goodWord, Cond.onTables, Cond.keeps, Cond.steady])
set_option maxRecDepth 20000 in
theorem md_g63 : mm_Good mm_r63 := mm_good_of (by decide +kernel) (by decide +kernel)
set_option maxRecDepth 20000 in
theorem md_c63 : mm_GoodC mm_r63 := mm_goodC_of md_g63 (by decide +kernel) (by decide +kernel) rfl (by simp [goodWord, Cond.onTables, Cond.keeps, Cond.steady])
set_option maxRecDepth 20000 in
theorem md_g64 : mm_Good mm_r64 := mm_good_of (by decide +kernel) (by decide +kernel)
set_option maxRecDepth 20000 in
theorem md_c64 : mm_GoodC mm_r64 := mm_goodC_of md_g64 (by decide +kernel) (by decide +kernel) rfl (by simp [goodWord, Cond.onTables, Cond.keeps, Cond.steady])
set_option maxRecDepth 20000 in
theorem md_g65 : mm_Good mm_r65 := mm_good_of (by decide +kernel) (by decide +kernel)
set_option maxRecDepth 20000 in
theorem md_c65 : mm_GoodC mm_r65 := mm_goodC_of md_g65 (by decide +kernel) (by decide +kernel) rfl (by simp [goodWord, Cond.onTables, Cond.keeps, Cond.steady])
set_option maxRecDepth 20000 in
theorem md_g66 : mm_Good mm_r66 := mm_good_of (by decide +kernel) (by decide +kernel)
set_option maxRecDepth 20000 in
theorem md_c66 : mm_GoodC mm_r66 := mm_goodC_of md_g66 (by decide +kernel) (by decide +kernel) rfl (by simp [goodWord, Cond.onTables, Cond.keeps, Cond.steady])
set_option maxRecDepth 20000 in
theorem md_g67 : mm_Good mm_r67 := mm_good_of (by decide +kernel) (by decide +kernel)
set_option maxRecDepth 20000 in
theorem md_c67 : mm_GoodC mm_r67 := mm_goodC_of md_g67 (by decide +kernel) (by decide +kernel) rfl (by simp [goodWord, Cond.onTables, Cond.keeps, Cond.steady])
set_option maxRecDepth 20000 in
theorem md_g68 : mm_Good mm_r68 := mm_good_of (by decide +kernel) (by decide +kernel)
set_option maxRecDepth 20000 in
theorem md_c68 : mm_GoodC mm_r68 := mm_goodC_of md_g68 (by decide +kernel) (by decide +kernel) rfl (by simp [goodWord, Cond.onTables, Cond.keeps, Cond.steady])
set_option maxRecDepth 20000 in
theorem md_g69 : mm_Good mm_r69 := mm_good_of (by decide +kernel) (by decide +kernel)
set_option maxRecDepth 20000 in
theorem md_c69 : mm_GoodC mm_r69 := mm_goodC_of md_g69 (by decide +kernel) (by decide +kernel) rfl (by simp [goodWord, Cond.onTables, Cond.keeps, Cond.steady])
set_option maxRecDepth 20000 in
theorem md_g70 : mm_Good mm_r70 := mm_good_of (by decide +kernel) (by decide +kernel)
set_option maxRecDepth 20000 in
theorem md_c70 : mm_GoodC mm_r70 := mm_goodC_of md_g70 (by decide +kernel) (by decide +kernel) rfl (by simp [goodWord, Cond.onTables, Cond.keeps, Cond.steady])
set_option maxRecDepth 20000 in
theorem md_g71 : mm_Good mm_r71 := mm_good_of (by decide +kernel) (by decide +kernel)
set_option maxRecDepth 20000 in
theorem md_c71 : mm_GoodC mm_r71 := mm_goodC_of md_g71 (by decide +kernel) (by decide +kernel) rfl (by simp [goodWord, Cond.onTables, Cond.keeps, Cond.steady])
set_option maxRecDepth 20000 in
theorem md_g72 : mm_Good mm_r72 := mm_good_of (by decide +kernel) (by decide +kernel)
set_option maxRecDepth 20000 in
theorem md_c72 : mm_GoodC mm_r72 := mm_goodC_of md_g72 (by decide +kernel) (by decide +kernel) rfl (by simp [goodWord, Cond.onTables, Cond.keeps, Cond.steady])
set_option maxRecDepth 20000 in
theorem md_g73 : mm_Good mm_r73 := mm_good_of (by decide +kernel) (by decide +kernel)
set_option maxRecDepth 20000 in
theorem md_c73 : mm_GoodC mm_r73 := mm_goodC_of md_g73 (by decide +kernel) (by decide +kernel) rfl (by simp [goodWord, Cond.onTables, Cond.keeps, Cond.steady])
set_option maxRecDepth 20000 in
theorem md_g74 : mm_Good mm_r74 := mm_good_of (by decide +kernel) (by decide +kernel)
set_option maxRecDepth 20000 in
theorem md_c74 : mm_GoodC mm_r74 := mm_goodC_of md_g74 (by decide +kernel) (by decide +kernel) rfl (by simp [goodWord, Cond.onTables, Cond.keeps, Cond.steady])
set_option maxRecDepth 20000 in
theorem md_g75 : mm_Good mm_r75 := mm_good_of (by decide +kernel) (by decide +kernel)
set_option maxRecDepth 20000 in
theorem md_c75 : mm_GoodC mm_r75 := mm_goodC_of md_g75 (by decide +kernel) (by decide +kernel) rfl (by simp [goodWord, Cond.onTables, Cond.keeps, Cond.steady])
set_option maxRecDepth 20000 in
theorem md_g76 : mm_Good mm_r76 := mm_good_of (by decide +kernel) (by decide +kernel)
set_option maxRecDepth 20000 in
theorem md_c76 : mm_GoodC mm_r76 := mm_goodC_of md_g76 (by decide +kernel) (by decide +kernel) rfl (by simp [goodWord, Cond.onTables, Cond.keeps, Cond.steady])
set_option maxRecDepth 20000 in
theorem md_g77 : mm_Good mm_r77 := mm_good_of (by decide +kernel) (by decide +kernel)
set_option maxRecDepth 20000 in
theorem md_c77 : mm_GoodC mm_r77 := mm_goodC_of md_g77 (by decide +kernel) (by decide +kernel) rfl (by simp [goodWord, Cond.onTables, Cond.keeps, Cond.steady])
set_option maxRecDepth 20000 in
theorem md_g78 : mm_Good mm_r78 := mm_good_of (by decide +kernel) (by decide +kernel)
set_option maxRecDepth 20000 in
theorem md_c78 : mm_GoodC mm_r78 := mm_goodC_of md_g78 (by decide +kernel) (by decide +kernel) rfl (by simp [goodWord, Cond.onTables, Cond.keeps, Cond.steady])
set_option maxRecDepth 20000 in
theorem md_g79 : mm_Good mm_r79 := mm_good_of (by decide +kernel) (by decide +kernel)
set_option maxRecDepth 20000 in
theorem md_c79 : mm_GoodC mm_r79 := mm_goodC_of md_g79 (by decide +kernel) (by decide +kernel) rfl (by simp [goodWord, Cond.onTables, Cond.keeps, Cond.steady])
set_option maxRecDepth 20000 in
theorem md_g80 : mm_Good mm_r80 := mm_good_of (by decide +kernel) (by decide +kernel)
set_option maxRecDepth 20000 in
theorem md_c80 : mm_GoodC mm_r80 := mm_goodC_of md_g80 (by decide +kernel) (by decide +kernel) rfl (by simp [goodWord, Cond.onTables, Cond.keeps, Cond.steady])
set_option maxRecDepth 20000 in
theorem md_g81 : mm_Good mm_r81 := mm_good_of (by decide +kernel) (by decide +kernel)
set_option maxRecDepth 20000 in
theorem md_c81 : mm_GoodC mm_r81 := mm_goodC_of md_g81 (by decide +kernel) (by decide +kernel) rfl (by simp [goodWord, Cond.onTables, Cond.keeps, Cond.steady])
set_option maxRecDepth 20000 in
theorem md_g82 : mm_Good mm_r82 := mm_good_of (by decide +kernel) (by decide +kernel)
set_option maxRecDepth 20000 in
theorem md_c82 : mm_GoodC mm_r82 := mm_goodC_of md_g82 (by decide +kernel) (by decide +kernel) rfl (by simp [goodWord, Cond.onTables, Cond.keeps, Cond.steady])
set_option maxRecDepth 20000 in
theorem md_g83 : mm_Good mm_r83 := mm_good_of (by decide +kernel) (by decide +kernel)
set_option maxRecDepth 20000 in
theorem md_c83 : mm_GoodC mm_r83 := mm_goodC_of md_g83 (by decide +kernel) (by decide +kernel) rfl (by simp [goodWord, Cond.onTables, Cond.keeps, Cond.steady])
set_option maxRecDepth 20000 in
theorem md_g84 : mm_Good mm_r84 := mm_good_of (by decide +kernel) (by decide +kernel)
set_option maxRecDepth 20000 in
theorem md_c84 : mm_GoodC mm_r84 := mm_goodC_of md_g84 (by decide +kernel) (by decide +kernel) rfl (by simp [goodWord, Cond.onTables, Cond.keeps, Cond.steady])
set_option maxRecDepth 20000 in
theorem md_g85 : mm_Good mm_r85 := mm_good_of (by decide +kernel) (by decide +kernel)
set_option maxRecDepth 20000 in
theorem md_c85 : mm_GoodC mm_r85 := mm_goodC_of md_g85 (by decide +kernel) (by decide +kernel) rfl (by simp [goodWord, Cond.onTables, Cond.keeps, Cond.steady])
set_option maxRecDepth 20000 in
theorem md_g86 : mm_Good mm_r86 := mm_good_of (by decide +kernel) (by decide +kernel)
set_option maxRecDepth 20000 in
theorem md_c86 : mm_GoodC mm_r86 := mm_goodC_of md_g86 (by decide +kernel) (by decide +kernel) rfl (by simp [goodWord, Cond.onTables, Cond.keeps, Cond.steady])
set_option maxRecDepth 20000 in
theorem md_g87 : mm_Good mm_r87 := mm_good_of (by decide +kernel) (by decide +kernel)
set_option maxRecDepth 20000 in
theorem md_c87 : mm_GoodC mm_r87 := mm_goodC_of md_g87 (by decide +kernel) (by decide +kernel) rfl (by simp [goodWord, Cond.onTables, Cond.keeps, Cond.steady])
set_option maxRecDepth 20000 in
theorem md_g88 : mm_Good mm_r88 := mm_good_of (by decide +kernel) (by decide +kernel)
set_option maxRecDepth 20000 in
theorem md_c88 : mm_GoodC mm_r88 := mm_goodC_of md_g88 (by decide +kernel) (by decide +kernel) rfl (by simp [goodWord, Cond.onTables, Cond.keeps, Cond.steady])
set_option maxRecDepth 20000 in
theorem md_g89 : mm_Good mm_r89 := mm_good_of (by decide +kernel) (by decide +kernel)
set_option maxRecDepth 20000 in
theorem md_c89 : mm_GoodC mm_r89 := mm_goodC_of md_g89 (by decide +kernel) (by decide +kernel) rfl (by simp [goodWord, Cond.onTables, Cond.keeps, Cond.steady])
set_option maxRecDepth 20000 in
theorem md_g90 : mm_Good mm_r90 := mm_good_of (by decide +kernel) (by decide +kernel)
set_option maxRecDepth 20000 in
theorem md_c90 : mm_GoodC mm_r90 := mm_goodC_of md_g90 (by decide +kernel) (by decide +kernel) rfl (by simp [goodWord, Cond.onTables, Cond.keeps, Cond.steady])
set_option maxRecDepth 20000 in
theorem md_g91 : mm_Good mm_r91 := mm_good_of (by decide +kernel) (by decide +kernel)
set_option maxRecDepth 20000 in
theorem md_c91 : mm_GoodC mm_r91 := mm_goodC_of md_g91 (by decide +kernel) (by decide +kernel) rfl (by simp [goodWord, Cond.onTables, Cond.keeps, Cond.steady])
set_option maxRecDepth 20000 in
theorem md_g92 : mm_Good mm_r92 := mm_good_of (by decide +kernel) (by decide +kernel)
set_option maxRecDepth 20000 in
theorem md_c92 : mm_GoodC mm_r92 := mm_goodC_of md_g92 (by decide +kernel) (by decide +kernel) rfl (by simp [goodWord, Cond.onTables, Cond.keeps, Cond.steady])
set_option maxRecDepth 20000 in
theorem md_g93 : mm_Good mm_r93 := mm_good_of (by decide +kernel) (by decide +kernel)
set_option maxRecDepth 20000 in
theorem md_c93 : mm_GoodC mm_r93 := mm_goodC_of md_g93 (by decide +kernel) (by decide +kernel) rfl (by simp [goodWord, Cond.onTables, Cond.keeps, Cond.steady])
set_option maxRecDepth 20000 in
theorem md_g94 : mm_Good mm_r94 := mm_good_of (by decide +kernel) (by decide +kernel)
set_option maxRecDepth 20000 in
theorem md_c94 : mm_GoodC mm_r94 := mm_goodC_of md_g94 (by decide +kernel) (by decide +kernel) rfl (by simp [goodWord, Cond.onTables, Cond.keeps, Cond.steady])
set_option maxRecDepth 20000 in
theorem md_g95 : mm_Good mm_r95 := mm_good_of (by decide +kernel) (by decide +kernel)
set_option maxRecDepth 20000 in
theorem md_c95 : mm_GoodC mm_r95 := mm_goodC_of md_g95 (by decide +kernel) (by decide +kernel) rfl (by simp [goodWord, Cond.onTables, Cond.keeps, Cond.steady])
set_option maxRecDepth 20000 in
theorem md_g96 : mm_Good mm_r96 := mm_good_of (by decide +kernel) (by decide +kernel)
set_option maxRecDepth 20000 in
theorem md_c96 : mm_GoodC mm_r96 := mm_goodC_of md_g96 (by decide +kernel) (by decide +kernel) rfl (by simp [goodWord, Cond.onTables, Cond.keeps, Cond.steady])
set_option maxRecDepth 20000 in
theorem md_g97 : mm_Good mm_r97 := mm_good_of (by decide +kernel) (by decide +kernel)
set_option maxRecDepth 20000 in
theorem md_c97 : mm_GoodC mm_r97 := mm_goodC_of md_g97 (by decide +kernel) (by decide +kernel) rfl (by simp [goodWord, Cond.onTables, Cond.keeps, Cond.steady])
set_option maxRecDepth 20000 in
theorem md_g98 : mm_Good mm_r98 := mm_good_of (by decide +kernel) (by decide +kernel)
set_option maxRecDepth 20000 in
theorem md_c98 : mm_GoodC mm_r98 := mm_goodC_of md_g98 (by decide +kernel) (by decide +kernel) rfl (by simp [goodWord, Cond.onTables, Cond.keeps, Cond.steady])
set_option maxRecDepth 20000 in
theorem md_g99 : mm_Good mm_r99 := mm_good_of (by decide +kernel) (by decide +kernel)
set_option maxRecDepth 20000 in
theorem md_c99 : mm_GoodC mm_r99 := mm_goodC_of md_g99 (by decide +kernel) (by decide +kernel) rfl (by simp [goodWord, Cond.onTables, Cond.keeps, Cond.steady])
set_option maxRecDepth 20000 in
theorem md_g100 : mm_Good mm_r100 := mm_good_of (by decide +kernel) (by decide +kernel)
set_option maxRecDepth 20000 in
theorem md_c100 : mm_GoodC mm_r100 := mm_goodC_of md_g100 (by decide +kernel) (by decide +kernel) rfl (by simp [goodWord, Cond.onTables, Cond.keeps, Cond.steady])
set_option maxRecDepth 20000 in
theorem md_g101 : mm_Good mm_r101 := mm_good_of (by decide +kernel) (by decide +kernel)
set_option maxRecDepth 20000 in
theorem md_c101 : mm_GoodC mm_r101 := mm_goodC_of md_g101 (by decide +kernel) (by decide +kernel) rfl (by simp [goodWord, Cond.onTables, Cond.keeps, Cond.steady])
set_option maxRecDepth 20000 in
theorem md_g102 : mm_Good mm_r102 := mm_good_of (by decide +kernel) (by decide +kernel)
set_option maxRecDepth 20000 in
theorem md_c102 : mm_GoodC mm_r102 := mm_goodC_of md_g102 (by decide +kernel) (by decide +kernel) rfl (by simp [goodWord, Cond.onTables, Cond.keeps, Cond.steady])
set_option maxRecDepth 20000 in
theorem md_g103 : mm_Good mm_r103 := mm_good_of (by decide +kernel) (by decide +kernel)
set_option maxRecDepth 20000 in
theorem md_c103 : mm_GoodC mm_r103 := mm_goodC_of md_g103 (by decide +kernel) (by decide +kernel) rfl (by simp [goodWord, Cond.onTables, Cond.keeps, Cond.steady])
set_option maxRecDepth 20000 in
theorem md_g104 : mm_Good mm_r104 := mm_good_of (by decide +kernel) (by decide +kernel)
set_option maxRecDepth 20000 in
theorem md_c104 : mm_GoodC mm_r104 := mm_goodC_of md_g104 (by decide +kernel) (by decide +kernel) rfl (by simp [goodWord, Cond.onTables, Cond.keeps, Cond.steady])
set_option maxRecDepth 20000 in
theorem md_g105 : mm_Good mm_r105 := mm_good_of (by decide +kernel) (by decide +kernel)
set_option maxRecDepth 20000 in
theorem md_c105 : mm_GoodC mm_r105 := mm_goodC_of md_g105 (by decide +kernel) (by decide +kernel) rfl (by simp [goodWord, Cond.onTables, Cond.keeps, Cond.steady])
set_option maxRecDepth 20000 in
theorem md_g106 : mm_Good mm_r106 := mm_good_of (by decide +kernel) (by decide +kernel)
set_option maxRecDepth 20000 in
theorem md_c106 : mm_GoodC mm_r106 := mm_goodC_of md_g106 (by decide +kernel) (by decide +kernel) rfl (by simp [goodWord, Cond.onTables, Cond.keeps, Cond.steady])
set_option maxRecDepth 20000 in
theorem md_g107 : mm_Good mm_r107 := mm_good_of (by decide +kernel) (by decide +kernel)
set_option maxRecDepth 20000 in
theorem md_c107 : mm_GoodC mm_r107 := mm_goodC_of md_g107 (by decide +kernel) (by decide +kernel) rfl (by simp [goodWord, Cond.onTables, Cond.keeps, Cond.steady])
set_option maxRecDepth 20000 in
theorem md_g108 : mm_Good mm_r108 := mm_good_of (by decide +kernel) (by decide +kernel)
set_option maxRecDepth 20000 in
theorem md_c108 : mm_GoodC mm_r108 := mm_goodC_of md_g108 (by decide +kernel) (by decide +kernel) rfl (by simp [goodWord, Cond.onTables, Cond.keeps, Cond.steady])
set_option maxRecDepth 20000 in
theorem md_g109 : mm_Good mm_r109 := mm_good_of (by decide +kernel) (by decide +kernel)
set_option maxRecDepth 20000 in
theorem md_c109 : mm_GoodC mm_r109 := mm_goodC_of md_g109 (by decide +kernel) (by decide +kernel) rfl (by simp [goodWord, Cond.onTables, Cond.keeps, Cond.steady])
set_option maxRecDepth 20000 in
theorem md_g110 : mm_Good mm_r110 := mm_good_of (by decide +kernel) (by decide +kernel)
set_option maxRecDepth 20000 in
theorem md_c110 : mm_GoodC mm_r110 := mm_goodC_of md_g110 (by decide +kernel) (by decide +kernel) rfl (by simp [goodWord, Cond.onTables, Cond.keeps, Cond.steady])
set_option maxRecDepth 20000 in
theorem md_g111 : mm_Good mm_r111 := mm_good_of (by decide +kernel) (by decide +kernel)
set_option maxRecDepth 20000 in
theorem md_c111 : mm_GoodC mm_r111 := mm_goodC_of md_g111 (by decide +kernel) (by decide +kernel) rfl (by simp [goodWord, Cond.onTables, Cond.keeps, Cond.steady])
set_option maxRecDepth 20000 in
theorem md_g112 : mm_Good mm_r112 := mm_good_of (by decide +kernel) (by decide +kernel)
set_option maxRecDepth 20000 in
theorem md_c112 : mm_GoodC mm_r112 := mm_goodC_of md_g112 (by decide +kernel) (by decide +kernel) rfl (by simp [goodWord, Cond.onTables, Cond.keeps, Cond.steady])
set_option maxRecDepth 20000 in
theorem md_g113 : mm_Good mm_r113 := mm_good_of (by decide +kernel) (by decide +kernel)
set_option maxRecDepth 20000 in
theorem md_c113 : mm_GoodC mm_r113 := mm_goodC_of md_g113 (by decide +kernel) (by decide +kernel) rfl (by simp [goodWord, Cond.onTables, Cond.keeps, Cond.steady])
set_option maxRecDepth 20000 in
theorem md_g114 : mm_Good mm_r114 := mm_good_of (by decide +kernel) (by decide +kernel)
set_option maxRecDepth 20000 in
theorem md_c114 : mm_GoodC mm_r114 := mm_goodC_of md_g114 (by decide +kernel) (by decide +kernel) rfl (by simp [goodWord, Cond.onTables, Cond.keeps, Cond.steady])
set_option maxRecDepth 20000 in
theorem md_g115 : mm_Good mm_r115 := mm_good_of (by decide +kernel) (by decide +kernel)
set_option maxRecDepth 20000 in
theorem md_c115 : mm_GoodC mm_r115 := mm_goodC_of md_g115 (by decide +kernel) (by decide +kernel) rfl (by simp [goodWord, Cond.onTables, Cond.keeps, Cond.steady])
set_option maxRecDepth 20000 in
theorem md_g116 : mm_Good mm_r116 := mm_good_of (by decide +kernel) (by decide +kernel)
set_option maxRecDepth 20000 in
theorem md_c116 : mm_GoodC mm_r116 := mm_goodC_of md_g116 (by decide +kernel) (by decide +kernel) rfl (by simp [goodWord, Cond.onTables, Cond.keeps, Cond.steady])
set_option maxRecDepth 20000 in
theorem md_g117 : mm_Good mm_r117 := mm_good_of (by decide +kernel) (by decide +kernel)
set_option maxRecDepth 20000 in
theorem md_c117 : mm_GoodC mm_r117 := mm_goodC_of md_g117 (by decide +kernel) (by decide +kernel) rfl (by simp [goodWord, Cond.onTables, Cond.keeps, Cond.steady])
set_option maxRecDepth 20000 in
theorem md_g118 : mm_Good mm_r118 := mm_good_of (by decide +kernel) (by decide +kernel)
set_option maxRecDepth 20000 in
theorem md_c118 : mm_GoodC mm_r118 := mm_goodC_of md_g118 (by decide +kernel) (by decide +kernel) rfl (by simp [goodWord, Cond.onTables, Cond.keeps, Cond.steady])
