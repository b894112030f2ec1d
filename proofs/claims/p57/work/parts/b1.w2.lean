set_option maxRecDepth 100000 in
theorem tw_hLK : tw_all4 tw_cLK tt_lks = true := by decide +kernel
