set_option maxRecDepth 100000 in
theorem tw_hMV : tw_rgl 313 (fun y => tw_cMV (y + 1)) = true := by decide +kernel
