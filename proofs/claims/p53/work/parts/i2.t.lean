theorem tm_t : tm_chk false false 56 8 = true := by decide +kernel
