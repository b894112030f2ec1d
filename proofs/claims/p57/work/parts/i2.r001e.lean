section
set_option maxRecDepth 1000000
theorem tm_a0_1_12 : tm_pj false false 1 12 = true := by decide +kernel
theorem tm_a0_1_13 : tm_pj false false 1 13 = true := by decide +kernel
theorem tm_a0_1_14 : tm_pj false false 1 14 = true := by decide +kernel
theorem tm_a0_1_15 : tm_pj false false 1 15 = true := by decide +kernel
theorem tm_a0_1_16 : tm_pj false false 1 16 = true := by decide +kernel
theorem tm_a0_1_17 : tm_pj false false 1 17 = true := by decide +kernel
end
