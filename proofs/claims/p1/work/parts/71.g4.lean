set_option maxRecDepth 100000 in
theorem kt_g4 : kt_rng 40 11 = true := by decide +kernel
