set_option maxRecDepth 20000 in
theorem md_tL_6 : mm_tL_6.all (fun q => decide (decode cL_law q.1 = .ok q.2)) = true := by decide +kernel
set_option maxRecDepth 20000 in
theorem md_tL_7 : mm_tL_7.all (fun q => decide (decode cL_law q.1 = .ok q.2)) = true := by decide +kernel
set_option maxRecDepth 20000 in
theorem md_tL_8 : mm_tL_8.all (fun q => decide (decode cL_law q.1 = .ok q.2)) = true := by decide +kernel
set_option maxRecDepth 20000 in
theorem md_tL_9 : mm_tL_9.all (fun q => decide (decode cL_law q.1 = .ok q.2)) = true := by decide +kernel
set_option maxRecDepth 20000 in
theorem md_tL_10 : mm_tL_10.all (fun q => decide (decode cL_law q.1 = .ok q.2)) = true := by decide +kernel
set_option maxRecDepth 20000 in
theorem md_tL_11 : mm_tL_11.all (fun q => decide (decode cL_law q.1 = .ok q.2)) = true := by decide +kernel
