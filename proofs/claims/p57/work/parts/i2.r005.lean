set_option maxRecDepth 1000000 in
theorem tm_a0_5 : tm_pc false false 5 1 = true := by decide +kernel
