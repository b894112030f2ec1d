section
set_option maxRecDepth 1000000
theorem tm_kz2 : tm_nk true false 1 36 = true := by decide +kernel
theorem tm_a2_1_0 : tm_pj true false 1 0 = true := by decide +kernel
theorem tm_a2_1_1 : tm_pj true false 1 1 = true := by decide +kernel
theorem tm_a2_1_2 : tm_pj true false 1 2 = true := by decide +kernel
theorem tm_a2_1_3 : tm_pj true false 1 3 = true := by decide +kernel
theorem tm_a2_1_4 : tm_pj true false 1 4 = true := by decide +kernel
theorem tm_a2_1_5 : tm_pj true false 1 5 = true := by decide +kernel
end
