set_option maxRecDepth 1000000 in
theorem tm_a0_0 : tm_pc false false 0 1 = true := by decide +kernel
