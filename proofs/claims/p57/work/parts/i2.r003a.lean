section
set_option maxRecDepth 1000000
theorem tm_kr0_3 : tm_nk false false 3 108 = true := by decide +kernel
theorem tm_a0_3_0 : tm_pj false false 3 0 = true := by decide +kernel
theorem tm_a0_3_1 : tm_pj false false 3 1 = true := by decide +kernel
theorem tm_a0_3_2 : tm_pj false false 3 2 = true := by decide +kernel
theorem tm_a0_3_3 : tm_pj false false 3 3 = true := by decide +kernel
theorem tm_a0_3_4 : tm_pj false false 3 4 = true := by decide +kernel
theorem tm_a0_3_5 : tm_pj false false 3 5 = true := by decide +kernel
theorem tm_a0_3_6 : tm_pj false false 3 6 = true := by decide +kernel
theorem tm_a0_3_7 : tm_pj false false 3 7 = true := by decide +kernel
theorem tm_a0_3_8 : tm_pj false false 3 8 = true := by decide +kernel
theorem tm_a0_3_9 : tm_pj false false 3 9 = true := by decide +kernel
theorem tm_a0_3_10 : tm_pj false false 3 10 = true := by decide +kernel
theorem tm_a0_3_11 : tm_pj false false 3 11 = true := by decide +kernel
theorem tm_a0_3_12 : tm_pj false false 3 12 = true := by decide +kernel
theorem tm_a0_3_13 : tm_pj false false 3 13 = true := by decide +kernel
theorem tm_a0_3_14 : tm_pj false false 3 14 = true := by decide +kernel
theorem tm_a0_3_15 : tm_pj false false 3 15 = true := by decide +kernel
theorem tm_a0_3_16 : tm_pj false false 3 16 = true := by decide +kernel
theorem tm_a0_3_17 : tm_pj false false 3 17 = true := by decide +kernel
end
