set_option maxRecDepth 100000 in
theorem tw_hCL : tw_rgl 13 tw_cCL = true := by decide +kernel
set_option maxRecDepth 100000 in
theorem tw_hFL : tw_all4 tw_cFL tt_fls = true := by decide +kernel
set_option maxRecDepth 100000 in
theorem tw_hKL : tw_all4 tw_cKL tt_kws = true := by decide +kernel
set_option maxRecDepth 100000 in
theorem tw_hTX : tw_all4 tw_cTX tt_txs = true := by decide +kernel
set_option maxRecDepth 100000 in
theorem tw_hAC : ((tw_in (2, 62) (.arrayClass .int) && tw_in (1, 112) (.arrayClass .byte) && tw_in (2, 201) (.arrayClass .short) && tw_in (7, 116) (.arrayClass .boolean) && tw_in (2, 226) (.arrayClass .long)) && tw_in (6, 62) (.native arraycopyName) && tw_in (6, 61) (.static arraycopyName) && tw_in (1, 21) (.initialized "java/lang/System")) = true := by decide +kernel
