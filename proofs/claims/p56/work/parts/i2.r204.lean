set_option maxRecDepth 1000000 in
theorem tm_a2_4 : tm_pc true false 4 1 = true := by decide +kernel
