set_option maxRecDepth 1000000 in
theorem tm_a2 : tm_all true false = true := by decide +kernel
