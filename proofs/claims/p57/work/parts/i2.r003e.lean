section
set_option maxRecDepth 1000000
theorem tm_a0_3_72 : tm_pj false false 3 72 = true := by decide +kernel
theorem tm_a0_3_73 : tm_pj false false 3 73 = true := by decide +kernel
theorem tm_a0_3_74 : tm_pj false false 3 74 = true := by decide +kernel
theorem tm_a0_3_75 : tm_pj false false 3 75 = true := by decide +kernel
theorem tm_a0_3_76 : tm_pj false false 3 76 = true := by decide +kernel
theorem tm_a0_3_77 : tm_pj false false 3 77 = true := by decide +kernel
theorem tm_a0_3_78 : tm_pj false false 3 78 = true := by decide +kernel
theorem tm_a0_3_79 : tm_pj false false 3 79 = true := by decide +kernel
theorem tm_a0_3_80 : tm_pj false false 3 80 = true := by decide +kernel
theorem tm_a0_3_81 : tm_pj false false 3 81 = true := by decide +kernel
theorem tm_a0_3_82 : tm_pj false false 3 82 = true := by decide +kernel
theorem tm_a0_3_83 : tm_pj false false 3 83 = true := by decide +kernel
theorem tm_a0_3_84 : tm_pj false false 3 84 = true := by decide +kernel
theorem tm_a0_3_85 : tm_pj false false 3 85 = true := by decide +kernel
theorem tm_a0_3_86 : tm_pj false false 3 86 = true := by decide +kernel
theorem tm_a0_3_87 : tm_pj false false 3 87 = true := by decide +kernel
theorem tm_a0_3_88 : tm_pj false false 3 88 = true := by decide +kernel
theorem tm_a0_3_89 : tm_pj false false 3 89 = true := by decide +kernel
end
