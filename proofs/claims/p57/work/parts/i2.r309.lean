set_option maxRecDepth 1000000 in
theorem tm_a3_9 : tm_pc true true 9 1 = true := by decide +kernel
