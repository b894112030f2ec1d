set_option maxRecDepth 100000 in
theorem kt_g0 : kt_rng 0 10 = true := by decide +kernel
