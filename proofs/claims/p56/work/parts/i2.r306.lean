set_option maxRecDepth 1000000 in
theorem tm_a3_6 : tm_pc true true 6 1 = true := by decide +kernel
