section
set_option maxRecDepth 1000000
theorem tm_kz2 : tm_nk true false 2 12 = true := by decide +kernel
theorem tm_a2_2_0 : tm_pj true false 2 0 = true := by decide +kernel
theorem tm_a2_2_1 : tm_pj true false 2 1 = true := by decide +kernel
theorem tm_a2_2_2 : tm_pj true false 2 2 = true := by decide +kernel
theorem tm_a2_2_3 : tm_pj true false 2 3 = true := by decide +kernel
end
