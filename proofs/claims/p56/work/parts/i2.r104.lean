set_option maxRecDepth 1000000 in
theorem tm_a1_4 : tm_pc false true 4 1 = true := by decide +kernel
