section
set_option maxRecDepth 1000000
theorem tm_a1_1_8 : tm_pj false true 1 8 = true := by decide +kernel
theorem tm_a1_1_9 : tm_pj false true 1 9 = true := by decide +kernel
theorem tm_a1_1_10 : tm_pj false true 1 10 = true := by decide +kernel
theorem tm_a1_1_11 : tm_pj false true 1 11 = true := by decide +kernel
end
