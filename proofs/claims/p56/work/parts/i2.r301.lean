set_option maxRecDepth 1000000 in
theorem tm_a3_1 : tm_pc true true 1 1 = true := by decide +kernel
