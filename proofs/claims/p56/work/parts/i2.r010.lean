set_option maxRecDepth 1000000 in
theorem tm_a0_10 : tm_pc false false 10 70 = true := by decide +kernel
