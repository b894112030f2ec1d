set_option maxRecDepth 1000000 in
theorem tm_a0_2 : tm_pc false false 2 1 = true := by decide +kernel
