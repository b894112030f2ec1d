set_option maxRecDepth 1000000 in
theorem tm_a2_6 : tm_pc true false 6 1 = true := by decide +kernel
