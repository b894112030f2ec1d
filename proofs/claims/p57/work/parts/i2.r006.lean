set_option maxRecDepth 1000000 in
theorem tm_a0_6 : tm_pc false false 6 1 = true := by decide +kernel
