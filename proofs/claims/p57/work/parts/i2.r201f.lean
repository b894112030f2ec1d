section
set_option maxRecDepth 1000000
theorem tm_a2_1_18 : tm_pj true false 1 18 = true := by decide +kernel
theorem tm_a2_1_19 : tm_pj true false 1 19 = true := by decide +kernel
theorem tm_a2_1_20 : tm_pj true false 1 20 = true := by decide +kernel
theorem tm_a2_1_21 : tm_pj true false 1 21 = true := by decide +kernel
theorem tm_a2_1_22 : tm_pj true false 1 22 = true := by decide +kernel
theorem tm_a2_1_23 : tm_pj true false 1 23 = true := by decide +kernel
end
