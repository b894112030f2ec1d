section
set_option maxRecDepth 1000000
theorem tm_kr3_3 : tm_nk true true 3 108 = true := by decide +kernel
theorem tm_a3_3_0 : tm_pj true true 3 0 = true := by decide +kernel
theorem tm_a3_3_1 : tm_pj true true 3 1 = true := by decide +kernel
theorem tm_a3_3_2 : tm_pj true true 3 2 = true := by decide +kernel
theorem tm_a3_3_3 : tm_pj true true 3 3 = true := by decide +kernel
theorem tm_a3_3_4 : tm_pj true true 3 4 = true := by decide +kernel
theorem tm_a3_3_5 : tm_pj true true 3 5 = true := by decide +kernel
theorem tm_a3_3_6 : tm_pj true true 3 6 = true := by decide +kernel
theorem tm_a3_3_7 : tm_pj true true 3 7 = true := by decide +kernel
theorem tm_a3_3_8 : tm_pj true true 3 8 = true := by decide +kernel
theorem tm_a3_3_9 : tm_pj true true 3 9 = true := by decide +kernel
theorem tm_a3_3_10 : tm_pj true true 3 10 = true := by decide +kernel
theorem tm_a3_3_11 : tm_pj true true 3 11 = true := by decide +kernel
theorem tm_a3_3_12 : tm_pj true true 3 12 = true := by decide +kernel
theorem tm_a3_3_13 : tm_pj true true 3 13 = true := by decide +kernel
theorem tm_a3_3_14 : tm_pj true true 3 14 = true := by decide +kernel
theorem tm_a3_3_15 : tm_pj true true 3 15 = true := by decide +kernel
theorem tm_a3_3_16 : tm_pj true true 3 16 = true := by decide +kernel
theorem tm_a3_3_17 : tm_pj true true 3 17 = true := by decide +kernel
end
