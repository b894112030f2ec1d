section
set_option maxRecDepth 1000000
theorem tm_a3_3_18 : tm_pj true true 3 18 = true := by decide +kernel
theorem tm_a3_3_19 : tm_pj true true 3 19 = true := by decide +kernel
theorem tm_a3_3_20 : tm_pj true true 3 20 = true := by decide +kernel
theorem tm_a3_3_21 : tm_pj true true 3 21 = true := by decide +kernel
theorem tm_a3_3_22 : tm_pj true true 3 22 = true := by decide +kernel
theorem tm_a3_3_23 : tm_pj true true 3 23 = true := by decide +kernel
theorem tm_a3_3_24 : tm_pj true true 3 24 = true := by decide +kernel
theorem tm_a3_3_25 : tm_pj true true 3 25 = true := by decide +kernel
theorem tm_a3_3_26 : tm_pj true true 3 26 = true := by decide +kernel
theorem tm_a3_3_27 : tm_pj true true 3 27 = true := by decide +kernel
theorem tm_a3_3_28 : tm_pj true true 3 28 = true := by decide +kernel
theorem tm_a3_3_29 : tm_pj true true 3 29 = true := by decide +kernel
theorem tm_a3_3_30 : tm_pj true true 3 30 = true := by decide +kernel
theorem tm_a3_3_31 : tm_pj true true 3 31 = true := by decide +kernel
theorem tm_a3_3_32 : tm_pj true true 3 32 = true := by decide +kernel
theorem tm_a3_3_33 : tm_pj true true 3 33 = true := by decide +kernel
theorem tm_a3_3_34 : tm_pj true true 3 34 = true := by decide +kernel
theorem tm_a3_3_35 : tm_pj true true 3 35 = true := by decide +kernel
end
