set_option maxRecDepth 1000000 in
theorem tm_a0 : tm_all false false = true := by decide +kernel
