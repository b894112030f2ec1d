set_option maxRecDepth 100000 in
theorem kt_d147 : kt_cD 147 kt_147 = true := by decide +kernel
set_option maxRecDepth 100000 in
theorem kt_d148 : kt_cD 148 kt_148 = true := by decide +kernel
set_option maxRecDepth 100000 in
theorem kt_d149 : kt_cD 149 kt_149 = true := by decide +kernel
set_option maxRecDepth 100000 in
theorem kt_d150 : kt_cD 150 kt_150 = true := by decide +kernel
set_option maxRecDepth 100000 in
theorem kt_d151 : kt_cD 151 kt_151 = true := by decide +kernel
set_option maxRecDepth 100000 in
theorem kt_d152 : kt_cD 152 kt_152 = true := by decide +kernel
set_option maxRecDepth 100000 in
theorem kt_d153 : kt_cD 153 kt_153 = true := by decide +kernel
set_option maxRecDepth 100000 in
theorem kt_d154 : kt_cD 154 kt_154 = true := by decide +kernel
set_option maxRecDepth 100000 in
theorem kt_d155 : kt_cD 155 kt_155 = true := by decide +kernel
set_option maxRecDepth 100000 in
theorem kt_d156 : kt_cD 156 kt_156 = true := by decide +kernel
set_option maxRecDepth 100000 in
theorem kt_d157 : kt_cD 157 kt_157 = true := by decide +kernel
set_option maxRecDepth 100000 in
theorem kt_d158 : kt_cD 158 kt_158 = true := by decide +kernel
set_option maxRecDepth 100000 in
theorem kt_d159 : kt_cD 159 kt_159 = true := by decide +kernel
set_option maxRecDepth 100000 in
theorem kt_d160 : kt_cD 160 kt_160 = true := by decide +kernel
set_option maxRecDepth 100000 in
theorem kt_d161 : kt_cD 161 kt_161 = true := by decide +kernel
set_option maxRecDepth 100000 in
theorem kt_d162 : kt_cD 162 kt_162 = true := by decide +kernel
set_option maxRecDepth 100000 in
theorem kt_d163 : kt_cD 163 kt_163 = true := by decide +kernel
set_option maxRecDepth 100000 in
theorem kt_d164 : kt_cD 164 kt_164 = true := by decide +kernel
set_option maxRecDepth 100000 in
theorem kt_d165 : kt_cD 165 kt_165 = true := by decide +kernel
set_option maxRecDepth 100000 in
theorem kt_d166 : kt_cD 166 kt_166 = true := by decide +kernel
set_option maxRecDepth 100000 in
theorem kt_d167 : kt_cD 167 kt_167 = true := by decide +kernel
set_option maxRecDepth 100000 in
theorem kt_d168 : kt_cD 168 kt_168 = true := by decide +kernel
set_option maxRecDepth 100000 in
theorem kt_d169 : kt_cD 169 kt_169 = true := by decide +kernel
set_option maxRecDepth 100000 in
theorem kt_d170 : kt_cD 170 kt_170 = true := by decide +kernel
set_option maxRecDepth 100000 in
theorem kt_d171 : kt_cD 171 kt_171 = true := by decide +kernel
