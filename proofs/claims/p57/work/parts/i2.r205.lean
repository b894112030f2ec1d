set_option maxRecDepth 1000000 in
theorem tm_a2_5 : tm_pc true false 5 1 = true := by decide +kernel
