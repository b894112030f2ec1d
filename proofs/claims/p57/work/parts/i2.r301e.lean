section
set_option maxRecDepth 1000000
theorem tm_a3_1_12 : tm_pj true true 1 12 = true := by decide +kernel
theorem tm_a3_1_13 : tm_pj true true 1 13 = true := by decide +kernel
theorem tm_a3_1_14 : tm_pj true true 1 14 = true := by decide +kernel
theorem tm_a3_1_15 : tm_pj true true 1 15 = true := by decide +kernel
theorem tm_a3_1_16 : tm_pj true true 1 16 = true := by decide +kernel
theorem tm_a3_1_17 : tm_pj true true 1 17 = true := by decide +kernel
end
