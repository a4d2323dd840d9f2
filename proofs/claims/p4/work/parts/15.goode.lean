set_option maxRecDepth 20000 in
theorem md_g200 : mm_Good mm_r200 := mm_good_of (by decide +kernel) (by decide +kernel)
set_option maxRecDepth 20000 in
theorem md_c200 : mm_GoodC mm_r200 := mm_goodC_of md_g200 (by decide +kernel) (by decide +kernel) rfl (by simp [goodWord, Cond.onTables, Cond.keeps, Cond.steady])
set_option maxRecDepth 20000 in
theorem md_g201 : mm_Good mm_r201 := mm_good_of (by decide +kernel) (by decide +kernel)
set_option maxRecDepth 20000 in
theorem md_c201 : mm_GoodC mm_r201 := mm_goodC_of md_g201 (by decide +kernel) (by decide +kernel) rfl (by simp [goodWord, Cond.onTables, Cond.keeps, Cond.steady])
