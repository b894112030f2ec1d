set_option maxRecDepth 1000000 in
theorem tm_a3_8 : tm_pc true true 8 1 = true := by decide +kernel
