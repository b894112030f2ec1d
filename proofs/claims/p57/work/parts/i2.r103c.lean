section
set_option maxRecDepth 1000000
theorem tm_a1_3_36 : tm_pj false true 3 36 = true := by decide +kernel
theorem tm_a1_3_37 : tm_pj false true 3 37 = true := by decide +kernel
theorem tm_a1_3_38 : tm_pj false true 3 38 = true := by decide +kernel
theorem tm_a1_3_39 : tm_pj false true 3 39 = true := by decide +kernel
theorem tm_a1_3_40 : tm_pj false true 3 40 = true := by decide +kernel
theorem tm_a1_3_41 : tm_pj false true 3 41 = true := by decide +kernel
theorem tm_a1_3_42 : tm_pj false true 3 42 = true := by decide +kernel
theorem tm_a1_3_43 : tm_pj false true 3 43 = true := by decide +kernel
theorem tm_a1_3_44 : tm_pj false true 3 44 = true := by decide +kernel
theorem tm_a1_3_45 : tm_pj false true 3 45 = true := by decide +kernel
theorem tm_a1_3_46 : tm_pj false true 3 46 = true := by decide +kernel
theorem tm_a1_3_47 : tm_pj false true 3 47 = true := by decide +kernel
theorem tm_a1_3_48 : tm_pj false true 3 48 = true := by decide +kernel
theorem tm_a1_3_49 : tm_pj false true 3 49 = true := by decide +kernel
theorem tm_a1_3_50 : tm_pj false true 3 50 = true := by decide +kernel
theorem tm_a1_3_51 : tm_pj false true 3 51 = true := by decide +kernel
theorem tm_a1_3_52 : tm_pj false true 3 52 = true := by decide +kernel
theorem tm_a1_3_53 : tm_pj false true 3 53 = true := by decide +kernel
end
