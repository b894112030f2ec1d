set_option maxRecDepth 1000000 in
theorem tm_a0_8 : tm_pc false false 8 1 = true := by decide +kernel
