set_option maxRecDepth 100000 in
theorem kt_g5 : kt_rng 52 5 = true := by decide +kernel
