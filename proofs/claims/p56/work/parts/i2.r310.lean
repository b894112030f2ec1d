set_option maxRecDepth 1000000 in
theorem tm_a3_10 : tm_pc true true 10 70 = true := by decide +kernel
