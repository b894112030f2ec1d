set_option maxRecDepth 1000000 in
theorem tm_a1_9 : tm_pc false true 9 1 = true := by decide +kernel
