set_option maxRecDepth 1000000 in
theorem tm_a0_7 : tm_pc false false 7 1 = true := by decide +kernel
