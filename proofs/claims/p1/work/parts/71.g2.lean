set_option maxRecDepth 100000 in
theorem kt_g2 : kt_rng 20 9 = true := by decide +kernel
