set_option maxRecDepth 1000000 in
theorem tm_a3_2 : tm_pc true true 2 1 = true := by decide +kernel
