set_option maxRecDepth 1000000 in
theorem tm_a0_4 : tm_pc false false 4 1 = true := by decide +kernel
