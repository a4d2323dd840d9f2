set_option maxRecDepth 20000 in
theorem md_tL_30 : mm_tL_30.all (fun q => decide (decode cL_law q.1 = .ok q.2)) = true := by decide +kernel
set_option maxRecDepth 20000 in
theorem md_tL_31 : mm_tL_31.all (fun q => decide (decode cL_law q.1 = .ok q.2)) = true := by decide +kernel
set_option maxRecDepth 20000 in
theorem md_tL_32 : mm_tL_32.all (fun q => decide (decode cL_law q.1 = .ok q.2)) = true := by decide +kernel
set_option maxRecDepth 20000 in
theorem md_tL_33 : mm_tL_33.all (fun q => decide (decode cL_law q.1 = .ok q.2)) = true := by decide +kernel
set_option maxRecDepth 20000 in
theorem md_tL_34 : mm_tL_34.all (fun q => decide (decode cL_law q.1 = .ok q.2)) = true := by decide +kernel
set_option maxRecDepth 20000 in
theorem md_tL_35 : mm_tL_35.all (fun q => decide (decode cL_law q.1 = .ok q.2)) = true := by decide +kernel
