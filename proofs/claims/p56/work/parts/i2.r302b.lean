section
set_option maxRecDepth 1000000
theorem tm_a3_2_4 : tm_pj true true 2 4 = true := by decide +kernel
theorem tm_a3_2_5 : tm_pj true true 2 5 = true := by decide +kernel
theorem tm_a3_2_6 : tm_pj true true 2 6 = true := by decide +kernel
theorem tm_a3_2_7 : tm_pj true true 2 7 = true := by decide +kernel
end
