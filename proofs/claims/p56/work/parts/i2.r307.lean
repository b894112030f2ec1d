set_option maxRecDepth 1000000 in
theorem tm_a3_7 : tm_pc true true 7 1 = true := by decide +kernel
