section
set_option maxRecDepth 1000000
theorem tm_a2_1_7 : tm_pj true false 1 7 = true := by decide +kernel
end
