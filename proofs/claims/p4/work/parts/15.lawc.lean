set_option maxRecDepth 20000 in
theorem md_tL_12 : mm_tL_12.all (fun q => decide (decode cL_law q.1 = .ok q.2)) = true := by decide +kernel
set_option maxRecDepth 20000 in
theorem md_tL_13 : mm_tL_13.all (fun q => decide (decode cL_law q.1 = .ok q.2)) = true := by decide +kernel
set_option maxRecDepth 20000 in
theorem md_tL_14 : mm_tL_14.all (fun q => decide (decode cL_law q.1 = .ok q.2)) = true := by decide +kernel
set_option maxRecDepth 20000 in
theorem md_tL_15 : mm_tL_15.all (fun q => decide (decode cL_law q.1 = .ok q.2)) = true := by decide +kernel
set_option maxRecDepth 20000 in
theorem md_tL_16 : mm_tL_16.all (fun q => decide (decode cL_law q.1 = .ok q.2)) = true := by decide +kernel
set_option maxRecDepth 20000 in
theorem md_tL_17 : mm_tL_17.all (fun q => decide (decode cL_law q.1 = .ok q.2)) = true := by decide +kernel
