set_option maxRecDepth 1000000 in
theorem tm_a1_1 : tm_pc false true 1 1 = true := by decide +kernel
