set_option maxRecDepth 1000000 in
theorem tm_a1_8 : tm_pc false true 8 1 = true := by decide +kernel
