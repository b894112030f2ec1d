set_option maxRecDepth 1000000 in
theorem tm_a2_3 : tm_pc true false 3 1 = true := by decide +kernel
