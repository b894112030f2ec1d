set_option maxRecDepth 100000 in
theorem tw_d313 : tw_cD 313 tt_313 = true := by decide +kernel
