set_option maxRecDepth 1000000 in
theorem tm_a2_8 : tm_pc true false 8 1 = true := by decide +kernel
