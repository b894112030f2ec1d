set_option maxRecDepth 100000 in
theorem kt_hCL : kt_rgl 13 kt_cCL = true := by decide +kernel
set_option maxRecDepth 100000 in
theorem kt_hFL : kt_all4 kt_cFL kt_fls = true := by decide +kernel
set_option maxRecDepth 100000 in
theorem kt_hNL : kt_all4 kt_cNL kt_nws = true := by decide +kernel
set_option maxRecDepth 100000 in
theorem kt_hKL : kt_all4 kt_cKL kt_kws = true := by decide +kernel
set_option maxRecDepth 100000 in
theorem kt_hAL : kt_all4 kt_cAL kt_aws = true := by decide +kernel
set_option maxRecDepth 100000 in
theorem kt_hML : kt_all4 kt_cML kt_mxs = true := by decide +kernel
set_option maxRecDepth 100000 in
theorem kt_hAC : ((kt_in (2, 62) (.arrayClass .int) && kt_in (1, 112) (.arrayClass .byte) && kt_in (2, 201) (.arrayClass .short) && kt_in (7, 116) (.arrayClass .boolean) && kt_in (2, 226) (.arrayClass .long)) && kt_in (1, 28) (.instanceMethod Lib.objectInit) && kt_in (6, 62) (.native arraycopyName) && kt_in (6, 61) (.static arraycopyName) && kt_in (1, 21) (.initialized "java/lang/System") && kt_in (1, 29) (.code Lib.objectInit object_method_1_code 1 none)) = true := by decide +kernel
set_option maxRecDepth 100000 in
theorem kt_hMM : (kt_in (3, 57) (.static Lib.Math.min.name) && kt_in (4, 13) (.static Lib.Math.max.name) && kt_in (1, 14) (.initialized "java/lang/Math") && kt_in (3, 58) (.code Lib.Math.min.name Lib.Math.min.code 2 (some .int)) && kt_in (4, 14) (.code Lib.Math.max.name Lib.Math.max.code 2 (some .int))) = true := by decide +kernel
