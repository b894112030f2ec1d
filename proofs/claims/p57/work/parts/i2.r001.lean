set_option maxRecDepth 1000000 in
theorem tm_a0_1 : tm_pc false false 1 1 = true := by decide +kernel
