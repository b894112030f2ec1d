set_option maxRecDepth 1000000 in
theorem tm_a0_3 : tm_pc false false 3 1 = true := by decide +kernel
