set_option maxRecDepth 1000000 in
theorem tm_a2_7 : tm_pc true false 7 1 = true := by decide +kernel
