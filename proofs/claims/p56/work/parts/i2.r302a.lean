section
set_option maxRecDepth 1000000
theorem tm_kz3 : tm_nk true true 2 12 = true := by decide +kernel
theorem tm_a3_2_0 : tm_pj true true 2 0 = true := by decide +kernel
theorem tm_a3_2_1 : tm_pj true true 2 1 = true := by decide +kernel
theorem tm_a3_2_2 : tm_pj true true 2 2 = true := by decide +kernel
theorem tm_a3_2_3 : tm_pj true true 2 3 = true := by decide +kernel
end
