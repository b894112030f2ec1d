set_option maxRecDepth 1000000 in
theorem tm_a1 : tm_all false true = true := by decide +kernel
