set_option maxRecDepth 20000 in
theorem md_tL_24 : mm_tL_24.all (fun q => decide (decode cL_law q.1 = .ok q.2)) = true := by decide +kernel
set_option maxRecDepth 20000 in
theorem md_tL_25 : mm_tL_25.all (fun q => decide (decode cL_law q.1 = .ok q.2)) = true := by decide +kernel
set_option maxRecDepth 20000 in
theorem md_tL_26 : mm_tL_26.all (fun q => decide (decode cL_law q.1 = .ok q.2)) = true := by decide +kernel
set_option maxRecDepth 20000 in
theorem md_tL_27 : mm_tL_27.all (fun q => decide (decode cL_law q.1 = .ok q.2)) = true := by decide +kernel
set_option maxRecDepth 20000 in
theorem md_tL_28 : mm_tL_28.all (fun q => decide (decode cL_law q.1 = .ok q.2)) = true := by decide +kernel
set_option maxRecDepth 20000 in
theorem md_tL_29 : mm_tL_29.all (fun q => decide (decode cL_law q.1 = .ok q.2)) = true := by decide +kernel
