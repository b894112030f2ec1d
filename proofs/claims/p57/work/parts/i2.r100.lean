set_option maxRecDepth 1000000 in
theorem tm_a1_0 : tm_pc false true 0 1 = true := by decide +kernel
