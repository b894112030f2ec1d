set_option maxRecDepth 1000000 in
theorem tm_a0_9 : tm_pc false false 9 1 = true := by decide +kernel
