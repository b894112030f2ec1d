set_option maxRecDepth 100000 in
theorem kt_hLK : kt_all4 kt_cLK kt_lks = true := by decide +kernel
