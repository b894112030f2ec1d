set_option maxRecDepth 100000 in
theorem tw_d126 : tw_cD 126 tt_126 = true := by decide +kernel
set_option maxRecDepth 100000 in
theorem tw_d127 : tw_cD 127 tt_127 = true := by decide +kernel
set_option maxRecDepth 100000 in
theorem tw_d128 : tw_cD 128 tt_128 = true := by decide +kernel
set_option maxRecDepth 100000 in
theorem tw_d129 : tw_cD 129 tt_129 = true := by decide +kernel
set_option maxRecDepth 100000 in
theorem tw_d130 : tw_cD 130 tt_130 = true := by decide +kernel
set_option maxRecDepth 100000 in
theorem tw_d131 : tw_cD 131 tt_131 = true := by decide +kernel
set_option maxRecDepth 100000 in
theorem tw_d132 : tw_cD 132 tt_132 = true := by decide +kernel
set_option maxRecDepth 100000 in
theorem tw_d133 : tw_cD 133 tt_133 = true := by decide +kernel
set_option maxRecDepth 100000 in
theorem tw_d134 : tw_cD 134 tt_134 = true := by decide +kernel
set_option maxRecDepth 100000 in
theorem tw_d135 : tw_cD 135 tt_135 = true := by decide +kernel
set_option maxRecDepth 100000 in
theorem tw_d136 : tw_cD 136 tt_136 = true := by decide +kernel
set_option maxRecDepth 100000 in
theorem tw_d137 : tw_cD 137 tt_137 = true := by decide +kernel
set_option maxRecDepth 100000 in
theorem tw_d138 : tw_cD 138 tt_138 = true := by decide +kernel
set_option maxRecDepth 100000 in
theorem tw_d139 : tw_cD 139 tt_139 = true := by decide +kernel
set_option maxRecDepth 100000 in
theorem tw_d140 : tw_cD 140 tt_140 = true := by decide +kernel
