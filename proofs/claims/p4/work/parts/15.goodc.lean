set_option maxRecDepth 20000 in
theorem md_g119 : mm_Good mm_r119 := mm_good_of (by decide +kernel) (by decide +kernel)
set_option maxRecDepth 20000 in
theorem md_c119 : mm_GoodC mm_r119 := mm_goodC_of md_g119 (by decide +kernel) (by decide +kernel) rfl (by simp [goodWord, Cond.onTables, Cond.keeps, Cond.steady])
set_option maxRecDepth 20000 in
theorem md_g120 : mm_Good mm_r120 := mm_good_of (by decide +kernel) (by decide +kernel)
set_option maxRecDepth 20000 in
theorem md_c120 : mm_GoodC mm_r120 := mm_goodC_of md_g120 (by decide +kernel) (by decide +kernel) rfl (by simp [goodWord, Cond.onTables, Cond.keeps, Cond.steady])
set_option maxRecDepth 20000 in
theorem md_g121 : mm_Good mm_r121 := mm_good_of (by decide +kernel) (by decide +kernel)
set_option maxRecDepth 20000 in
theorem md_c121 : mm_GoodC mm_r121 := mm_goodC_of md_g121 (by decide +kernel) (by decide +kernel) rfl (by simp [goodWord, Cond.onTables, Cond.keeps, Cond.steady])
set_option maxRecDepth 20000 in
theorem md_g122 : mm_Good mm_r122 := mm_good_of (by decide +kernel) (by decide +kernel)
set_option maxRecDepth 20000 in
theorem md_c122 : mm_GoodC mm_r122 := mm_goodC_of md_g122 (by decide +kernel) (by decide +kernel) rfl (by simp [goodWord, Cond.onTables, Cond.keeps, Cond.steady])
set_option maxRecDepth 20000 in
theorem md_g123 : mm_Good mm_r123 := mm_good_of (by decide +kernel) (by decide +kernel)
set_option maxRecDepth 20000 in
theorem md_c123 : mm_GoodC mm_r123 := mm_goodC_of md_g123 (by decide +kernel) (by decide +kernel) rfl (by simp [goodWord, Cond.onTables, Cond.keeps, Cond.steady])
set_option maxRecDepth 20000 in
theorem md_g124 : mm_Good mm_r124 := mm_good_of (by decide +kernel) (by decide +kernel)
set_option maxRecDepth 20000 in
theorem md_c124 : mm_GoodC mm_r124 := mm_goodC_of md_g124 (by decide +kernel) (by decide +kernel) rfl (by simp [goodWord, Cond.onTables, Cond.keeps, Cond.steady])
set_option maxRecDepth 20000 in
theorem md_g125 : mm_Good mm_r125 := mm_good_of (by decide +kernel) (by decide +kernel)
set_option maxRecDepth 20000 in
theorem md_c125 : mm_GoodC mm_r125 := mm_goodC_of md_g125 (by decide +kernel) (by decide +kernel) rfl (by simp [goodWord, Cond.onTables, Cond.keeps, Cond.steady])
set_option maxRecDepth 20000 in
theorem md_g126 : mm_Good mm_r126 := mm_good_of (by decide +kernel) (by decide +kernel)
set_option maxRecDepth 20000 in
theorem md_c126 : mm_GoodC mm_r126 := mm_goodC_of md_g126 (by decide +kernel) (by decide +kernel) rfl (by simp [goodWord, Cond.onTables, Cond.keeps, Cond.steady])
set_option maxRecDepth 20000 in
theorem md_g127 : mm_Good mm_r127 := mm_good_of (by decide +kernel) (by decide +kernel)
set_option maxRecDepth 20000 in
theorem md_c127 : mm_GoodC mm_r127 := mm_goodC_of md_g127 (by decide +kernel) (by decide +kernel) rfl (by simp [goodWord, Cond.onTables, Cond.keeps, Cond.steady])
set_option maxRecDepth 20000 in
theorem md_g128 : mm_Good mm_r128 := mm_good_of (by decide +kernel) (by decide +kernel)
set_option maxRecDepth 20000 in
theorem md_c128 : mm_GoodC mm_r128 := mm_goodC_of md_g128 (by decide +kernel) (by decide +kernel) rfl (by simp [goodWord, Cond.onTables, Cond.keeps, Cond.steady])
set_option maxRecDepth 20000 in
theorem md_g129 : mm_Good mm_r129 := mm_good_of (by decide +kernel) (by decide +kernel)
set_option maxRecDepth 20000 in
theorem md_c129 : mm_GoodC mm_r129 := mm_goodC_of md_g129 (by decide +kernel) (by decide +kernel) rfl (by simp [goodWord, Cond.onTables, Cond.keeps, Cond.steady])
set_option maxRecDepth 20000 in
theorem md_g130 : mm_Good mm_r130 := mm_good_of (by decide +kernel) (by decide +kernel)
set_option maxRecDepth 20000 in
theorem md_c130 : mm_GoodC mm_r130 := mm_goodC_of md_g130 (by decide +kernel) (by decide +kernel) rfl (by simp [goodWord, Cond.onTables, Cond.keeps, Cond.steady])
set_option maxRecDepth 20000 in
theorem md_g131 : mm_Good mm_r131 := mm_good_of (by decide +kernel) (by decide +kernel)
set_option maxRecDepth 20000 in
theorem md_c131 : mm_GoodC mm_r131 := mm_goodC_of md_g131 (by decide +kernel) (by decide +kernel) rfl (by simp [goodWord, Cond.onTables, Cond.keeps, Cond.steady])
set_option maxRecDepth 20000 in
theorem md_g132 : mm_Good mm_r132 := mm_good_of (by decide +kernel) (by decide +kernel)
set_option maxRecDepth 20000 in
theorem md_c132 : mm_GoodC mm_r132 := mm_goodC_of md_g132 (by decide +kernel) (by decide +kernel) rfl (by simp [goodWord, Cond.onTables, Cond.keeps, Cond.steady])
set_option maxRecDepth 20000 in
theorem md_g133 : mm_Good mm_r133 := mm_good_of (by decide +kernel) (by decide +kernel)
set_option maxRecDepth 20000 in
theorem md_c133 : mm_GoodC mm_r133 := mm_goodC_of md_g133 (by decide +kernel) (by decide +kernel) rfl (by simp [goodWord, Cond.onTables, Cond.keeps, Cond.steady])
set_option maxRecDepth 20000 in
theorem md_g134 : mm_Good mm_r134 := mm_good_of (by decide +kernel) (by decide +kernel)
set_option maxRecDepth 20000 in
theorem md_c134 : mm_GoodC mm_r134 := mm_goodC_of md_g134 (by decide +kernel) (by decide +kernel) rfl (by simp [goodWord, Cond.onTables, Cond.keeps, Cond.steady])
set_option maxRecDepth 20000 in
theorem md_g135 : mm_Good mm_r135 := mm_good_of (by decide +kernel) (by decide +kernel)
set_option maxRecDepth 20000 in
theorem md_c135 : mm_GoodC mm_r135 := mm_goodC_of md_g135 (by decide +kernel) (by decide +kernel) rfl (by simp [goodWord, Cond.onTables, Cond.keeps, Cond.steady])
set_option maxRecDepth 20000 in
theorem md_g136 : mm_Good mm_r136 := mm_good_of (by decide +kernel) (by decide +kernel)
set_option maxRecDepth 20000 in
theorem md_c136 : mm_GoodC mm_r136 := mm_goodC_of md_g136 (by decide +kernel) (by decide +kernel) rfl (by simp [goodWord, Cond.onTables, Cond.keeps, Cond.steady])
set_option maxRecDepth 20000 in
theorem md_g137 : mm_Good mm_r137 := mm_good_of (by decide +kernel) (by decide +kernel)
set_option maxRecDepth 20000 in
theorem md_c137 : mm_GoodC mm_r137 := mm_goodC_of md_g137 (by decide +kernel) (by decide +kernel) rfl (by simp [goodWord, Cond.onTables, Cond.keeps, Cond.steady])
set_option maxRecDepth 20000 in
theorem md_g138 : mm_Good mm_r138 := mm_good_of (by decide +kernel) (by decide +kernel)
set_option maxRecDepth 20000 in
theorem md_c138 : mm_GoodC mm_r138 := mm_goodC_of md_g138 (by decide +kernel) (by decide +kernel) rfl (by simp [goodWord, Cond.onTables, Cond.keeps, Cond.steady])
set_option maxRecDepth 20000 in
theorem md_g139 : mm_Good mm_r139 := mm_good_of (by decide +kernel) (by decide +kernel)
set_option maxRecDepth 20000 in
theorem md_c139 : mm_GoodC mm_r139 := mm_goodC_of md_g139 (by decide +kernel) (by decide +kernel) rfl (by simp [goodWord, Cond.onTables, Cond.keeps, Cond.steady])
set_option maxRecDepth 20000 in
theorem md_g140 : mm_Good mm_r140 := mm_good_of (by decide +kernel) (by decide +kernel)
set_option maxRecDepth 20000 in
theorem md_c140 : mm_GoodC mm_r140 := mm_goodC_of md_g140 (by decide +kernel) (by decide +kernel) rfl (by simp [goodWord, Cond.onTables, Cond.keeps, Cond.steady])
set_option maxRecDepth 20000 in
theorem md_g141 : mm_Good mm_r141 := mm_good_of (by decide +kernel) (by decide +kernel)
set_option maxRecDepth 20000 in
theorem md_c141 : mm_GoodC mm_r141 := mm_goodC_of md_g141 (by decide +kernel) (by decide +kernel) rfl (by simp [goodWord, Cond.onTables, Cond.keeps, Cond.steady])
set_option maxRecDepth 20000 in
theorem md_g142 : mm_Good mm_r142 := mm_good_of (by decide +kernel) (by decide +kernel)
set_option maxRecDepth 20000 in
theorem md_c142 : mm_GoodC mm_r142 := mm_goodC_of md_g142 (by decide +kernel) (by decide +kernel) rfl (by simp [goodWord, Cond.onTables, Cond.keeps, Cond.steady])
set_option maxRecDepth 20000 in
theorem md_g143 : mm_Good mm_r143 := mm_good_of (by decide +kernel) (by decide +kernel)
set_option maxRecDepth 20000 in
theorem md_c143 : mm_GoodC mm_r143 := mm_goodC_of md_g143 (by decide +kernel) (by decide +kernel) rfl (by simp [goodWord, Cond.onTables, Cond.keeps, Cond.steady])
set_option maxRecDepth 20000 in
theorem md_g144 : mm_Good mm_r144 := mm_good_of (by decide +kernel) (by decide +kernel)
set_option maxRecDepth 20000 in
theorem md_c144 : mm_GoodC mm_r144 := mm_goodC_of md_g144 (by decide +kernel) (by decide +kernel) rfl (by simp [goodWord, Cond.onTables, Cond.keeps, Cond.steady])
set_option maxRecDepth 20000 in
theorem md_g145 : mm_Good mm_r145 := mm_good_of (by decide +kernel) (by decide +kernel)
set_option maxRecDepth 20000 in
theorem md_c145 : mm_GoodC mm_r145 := mm_goodC_of md_g145 (by decide +kernel) (by decide +kernel) rfl (by simp [goodWord, Cond.onTables, Cond.keeps, Cond.steady])
set_option maxRecDepth 20000 in
theorem md_g146 : mm_Good mm_r146 := mm_good_of (by decide +kernel) (by decide +kernel)
set_option maxRecDepth 20000 in
theorem md_c146 : mm_GoodC mm_r146 := mm_goodC_of md_g146 (by decide +kernel) (by decide +kernel) rfl (by simp [goodWord, Cond.onTables, Cond.keeps, Cond.steady])
set_option maxRecDepth 20000 in
theorem md_g147 : mm_Good mm_r147 := mm_good_of (by decide +kernel) (by decide +kernel)
set_option maxRecDepth 20000 in
theorem md_c147 : mm_GoodC mm_r147 := mm_goodC_of md_g147 (by decide +kernel) (by decide +kernel) rfl (by simp [goodWord, Cond.onTables, Cond.keeps, Cond.steady])
set_option maxRecDepth 20000 in
theorem md_g148 : mm_Good mm_r148 := mm_good_of (by decide +kernel) (by decide +kernel)
set_option maxRecDepth 20000 in
theorem md_c148 : mm_GoodC mm_r148 := mm_goodC_of md_g148 (by decide +kernel) (by decide +kernel) rfl (by simp [goodWord, Cond.onTables, Cond.keeps, Cond.steady])
set_option maxRecDepth 20000 in
theorem md_g149 : mm_Good mm_r149 := mm_good_of (by decide +kernel) (by decide +kernel)
set_option maxRecDepth 20000 in
theorem md_c149 : mm_GoodC mm_r149 := mm_goodC_of md_g149 (by decide +kernel) (by decide +kernel) rfl (by simp [goodWord, Cond.onTables, Cond.keeps, Cond.steady])
set_option maxRecDepth 20000 in
theorem md_g150 : mm_Good mm_r150 := mm_good_of (by decide +kernel) (by decide +kernel)
set_option maxRecDepth 20000 in
theorem md_c150 : mm_GoodC mm_r150 := mm_goodC_of md_g150 (by decide +kernel) (by decide +kernel) rfl (by simp [goodWord, Cond.onTables, Cond.keeps, Cond.steady])
set_option maxRecDepth 20000 in
theorem md_g151 : mm_Good mm_r151 := mm_good_of (by decide +kernel) (by decide +kernel)
set_option maxRecDepth 20000 in
theorem md_c151 : mm_GoodC mm_r151 := mm_goodC_of md_g151 (by decide +kernel) (by decide +kernel) rfl (by simp [goodWord, Cond.onTables, Cond.keeps, Cond.steady])
