set_option maxRecDepth 1000000 in
theorem tm_a1_2 : tm_pc false true 2 1 = true := by decide +kernel
