set_option maxRecDepth 1000000 in
theorem tm_a1_10 : tm_pc false true 10 70 = true := by decide +kernel
