set_option maxRecDepth 100000 in
theorem kt_hMV : kt_rgl 179 (fun y => kt_cMV (y + 1)) = true := by decide +kernel
