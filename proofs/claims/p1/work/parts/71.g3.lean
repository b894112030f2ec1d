set_option maxRecDepth 100000 in
theorem kt_g3 : kt_rng 29 11 = true := by decide +kernel
