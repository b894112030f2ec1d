section
set_option maxRecDepth 1000000
theorem tm_a0_1_6 : tm_pj false false 1 6 = true := by decide +kernel
end
