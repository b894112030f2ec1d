set_option maxRecDepth 1000000 in
theorem tm_a3_0 : tm_pc true true 0 1 = true := by decide +kernel
