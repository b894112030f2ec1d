section
set_option maxRecDepth 1000000
theorem tm_kz3 : tm_nk true true 1 36 = true := by decide +kernel
theorem tm_a3_1_0 : tm_pj true true 1 0 = true := by decide +kernel
theorem tm_a3_1_1 : tm_pj true true 1 1 = true := by decide +kernel
theorem tm_a3_1_2 : tm_pj true true 1 2 = true := by decide +kernel
theorem tm_a3_1_3 : tm_pj true true 1 3 = true := by decide +kernel
theorem tm_a3_1_4 : tm_pj true true 1 4 = true := by decide +kernel
theorem tm_a3_1_5 : tm_pj true true 1 5 = true := by decide +kernel
end
