set_option maxRecDepth 1000000 in
theorem tm_a1_6 : tm_pc false true 6 1 = true := by decide +kernel
