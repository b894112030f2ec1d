section
set_option maxRecDepth 1000000
theorem tm_a3_1_6 : tm_pj true true 1 6 = true := by decide +kernel
end
