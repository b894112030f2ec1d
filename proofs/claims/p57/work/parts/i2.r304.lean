set_option maxRecDepth 1000000 in
theorem tm_a3_4 : tm_pc true true 4 1 = true := by decide +kernel
