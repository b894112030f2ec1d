set_option maxRecDepth 1000000 in
theorem tm_a1_3 : tm_pc false true 3 1 = true := by decide +kernel
