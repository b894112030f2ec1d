set_option maxRecDepth 1000000 in
theorem tm_a2_0 : tm_pc true false 0 1 = true := by decide +kernel
