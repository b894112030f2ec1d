section
set_option maxRecDepth 1000000
theorem tm_a3_3_54 : tm_pj true true 3 54 = true := by decide +kernel
theorem tm_a3_3_55 : tm_pj true true 3 55 = true := by decide +kernel
theorem tm_a3_3_56 : tm_pj true true 3 56 = true := by decide +kernel
theorem tm_a3_3_57 : tm_pj true true 3 57 = true := by decide +kernel
theorem tm_a3_3_58 : tm_pj true true 3 58 = true := by decide +kernel
theorem tm_a3_3_59 : tm_pj true true 3 59 = true := by decide +kernel
theorem tm_a3_3_60 : tm_pj true true 3 60 = true := by decide +kernel
theorem tm_a3_3_61 : tm_pj true true 3 61 = true := by decide +kernel
theorem tm_a3_3_62 : tm_pj true true 3 62 = true := by decide +kernel
theorem tm_a3_3_63 : tm_pj true true 3 63 = true := by decide +kernel
theorem tm_a3_3_64 : tm_pj true true 3 64 = true := by decide +kernel
theorem tm_a3_3_65 : tm_pj true true 3 65 = true := by decide +kernel
theorem tm_a3_3_66 : tm_pj true true 3 66 = true := by decide +kernel
theorem tm_a3_3_67 : tm_pj true true 3 67 = true := by decide +kernel
theorem tm_a3_3_68 : tm_pj true true 3 68 = true := by decide +kernel
theorem tm_a3_3_69 : tm_pj true true 3 69 = true := by decide +kernel
theorem tm_a3_3_70 : tm_pj true true 3 70 = true := by decide +kernel
theorem tm_a3_3_71 : tm_pj true true 3 71 = true := by decide +kernel
end
