section
set_option maxRecDepth 1000000
theorem tm_k0 : tm_nk false false 2 12 = true := by decide +kernel
theorem tm_a0_2_0 : tm_pj false false 2 0 = true := by decide +kernel
theorem tm_a0_2_1 : tm_pj false false 2 1 = true := by decide +kernel
theorem tm_a0_2_2 : tm_pj false false 2 2 = true := by decide +kernel
theorem tm_a0_2_3 : tm_pj false false 2 3 = true := by decide +kernel
end
