set_option maxRecDepth 1000000 in
theorem tm_a2_10 : tm_pc true false 10 70 = true := by decide +kernel
