set_option maxRecDepth 100000 in
theorem kt_d118 : kt_cD 118 kt_118 = true := by decide +kernel
set_option maxRecDepth 100000 in
theorem kt_d119 : kt_cD 119 kt_119 = true := by decide +kernel
set_option maxRecDepth 100000 in
theorem kt_d120 : kt_cD 120 kt_120 = true := by decide +kernel
set_option maxRecDepth 100000 in
theorem kt_d121 : kt_cD 121 kt_121 = true := by decide +kernel
set_option maxRecDepth 100000 in
theorem kt_d122 : kt_cD 122 kt_122 = true := by decide +kernel
set_option maxRecDepth 100000 in
theorem kt_d123 : kt_cD 123 kt_123 = true := by decide +kernel
set_option maxRecDepth 100000 in
theorem kt_d124 : kt_cD 124 kt_124 = true := by decide +kernel
set_option maxRecDepth 100000 in
theorem kt_d125 : kt_cD 125 kt_125 = true := by decide +kernel
set_option maxRecDepth 100000 in
theorem kt_d126 : kt_cD 126 kt_126 = true := by decide +kernel
set_option maxRecDepth 100000 in
theorem kt_d127 : kt_cD 127 kt_127 = true := by decide +kernel
set_option maxRecDepth 100000 in
theorem kt_d128 : kt_cD 128 kt_128 = true := by decide +kernel
set_option maxRecDepth 100000 in
theorem kt_d129 : kt_cD 129 kt_129 = true := by decide +kernel
set_option maxRecDepth 100000 in
theorem kt_d130 : kt_cD 130 kt_130 = true := by decide +kernel
set_option maxRecDepth 100000 in
theorem kt_d131 : kt_cD 131 kt_131 = true := by decide +kernel
set_option maxRecDepth 100000 in
theorem kt_d132 : kt_cD 132 kt_132 = true := by decide +kernel
set_option maxRecDepth 100000 in
theorem kt_d133 : kt_cD 133 kt_133 = true := by decide +kernel
set_option maxRecDepth 100000 in
theorem kt_d134 : kt_cD 134 kt_134 = true := by decide +kernel
set_option maxRecDepth 100000 in
theorem kt_d135 : kt_cD 135 kt_135 = true := by decide +kernel
set_option maxRecDepth 100000 in
theorem kt_d136 : kt_cD 136 kt_136 = true := by decide +kernel
set_option maxRecDepth 100000 in
theorem kt_d137 : kt_cD 137 kt_137 = true := by decide +kernel
set_option maxRecDepth 100000 in
theorem kt_d138 : kt_cD 138 kt_138 = true := by decide +kernel
set_option maxRecDepth 100000 in
theorem kt_d139 : kt_cD 139 kt_139 = true := by decide +kernel
set_option maxRecDepth 100000 in
theorem kt_d140 : kt_cD 140 kt_140 = true := by decide +kernel
set_option maxRecDepth 100000 in
theorem kt_d141 : kt_cD 141 kt_141 = true := by decide +kernel
set_option maxRecDepth 100000 in
theorem kt_d142 : kt_cD 142 kt_142 = true := by decide +kernel
set_option maxRecDepth 100000 in
theorem kt_d143 : kt_cD 143 kt_143 = true := by decide +kernel
set_option maxRecDepth 100000 in
theorem kt_d144 : kt_cD 144 kt_144 = true := by decide +kernel
set_option maxRecDepth 100000 in
theorem kt_d145 : kt_cD 145 kt_145 = true := by decide +kernel
set_option maxRecDepth 100000 in
theorem kt_d146 : kt_cD 146 kt_146 = true := by decide +kernel
