set_option maxRecDepth 1000000 in
theorem tm_a3_5 : tm_pc true true 5 1 = true := by decide +kernel
