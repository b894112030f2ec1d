set_option maxRecDepth 1000000 in
theorem tm_a2_9 : tm_pc true false 9 1 = true := by decide +kernel
