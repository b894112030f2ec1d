set_option maxRecDepth 1000000 in
theorem tm_a2_2 : tm_pc true false 2 1 = true := by decide +kernel
