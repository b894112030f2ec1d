set_option maxRecDepth 1000000 in
theorem tm_a3_3 : tm_pc true true 3 1 = true := by decide +kernel
