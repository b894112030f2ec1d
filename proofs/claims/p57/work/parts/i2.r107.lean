set_option maxRecDepth 1000000 in
theorem tm_a1_7 : tm_pc false true 7 1 = true := by decide +kernel
