set_option maxRecDepth 1000000 in
theorem tm_a1_5 : tm_pc false true 5 1 = true := by decide +kernel
