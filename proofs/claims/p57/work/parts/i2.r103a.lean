section
set_option maxRecDepth 1000000
theorem tm_kr1_3 : tm_nk false true 3 108 = true := by decide +kernel
theorem tm_a1_3_0 : tm_pj false true 3 0 = true := by decide +kernel
theorem tm_a1_3_1 : tm_pj false true 3 1 = true := by decide +kernel
theorem tm_a1_3_2 : tm_pj false true 3 2 = true := by decide +kernel
theorem tm_a1_3_3 : tm_pj false true 3 3 = true := by decide +kernel
theorem tm_a1_3_4 : tm_pj false true 3 4 = true := by decide +kernel
theorem tm_a1_3_5 : tm_pj false true 3 5 = true := by decide +kernel
theorem tm_a1_3_6 : tm_pj false true 3 6 = true := by decide +kernel
theorem tm_a1_3_7 : tm_pj false true 3 7 = true := by decide +kernel
theorem tm_a1_3_8 : tm_pj false true 3 8 = true := by decide +kernel
theorem tm_a1_3_9 : tm_pj false true 3 9 = true := by decide +kernel
theorem tm_a1_3_10 : tm_pj false true 3 10 = true := by decide +kernel
theorem tm_a1_3_11 : tm_pj false true 3 11 = true := by decide +kernel
theorem tm_a1_3_12 : tm_pj false true 3 12 = true := by decide +kernel
theorem tm_a1_3_13 : tm_pj false true 3 13 = true := by decide +kernel
theorem tm_a1_3_14 : tm_pj false true 3 14 = true := by decide +kernel
theorem tm_a1_3_15 : tm_pj false true 3 15 = true := by decide +kernel
theorem tm_a1_3_16 : tm_pj false true 3 16 = true := by decide +kernel
theorem tm_a1_3_17 : tm_pj false true 3 17 = true := by decide +kernel
end
