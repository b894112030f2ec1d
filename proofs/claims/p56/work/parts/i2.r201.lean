set_option maxRecDepth 1000000 in
theorem tm_a2_1 : tm_pc true false 1 1 = true := by decide +kernel
