section
set_option maxRecDepth 1000000
theorem tm_a0_1_24 : tm_pj false false 1 24 = true := by decide +kernel
theorem tm_a0_1_25 : tm_pj false false 1 25 = true := by decide +kernel
theorem tm_a0_1_26 : tm_pj false false 1 26 = true := by decide +kernel
theorem tm_a0_1_27 : tm_pj false false 1 27 = true := by decide +kernel
theorem tm_a0_1_28 : tm_pj false false 1 28 = true := by decide +kernel
theorem tm_a0_1_29 : tm_pj false false 1 29 = true := by decide +kernel
end
