set_option maxRecDepth 100000 in
theorem kt_g1 : kt_rng 10 10 = true := by decide +kernel
