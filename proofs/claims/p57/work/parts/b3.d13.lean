set_option maxRecDepth 100000 in
theorem tw_d152 : tw_cD 152 tt_152 = true := by decide +kernel
set_option maxRecDepth 100000 in
theorem tw_d153 : tw_cD 153 tt_153 = true := by decide +kernel
set_option maxRecDepth 100000 in
theorem tw_d154 : tw_cD 154 tt_154 = true := by decide +kernel
set_option maxRecDepth 100000 in
theorem tw_d155 : tw_cD 155 tt_155 = true := by decide +kernel
set_option maxRecDepth 100000 in
theorem tw_d156 : tw_cD 156 tt_156 = true := by decide +kernel
set_option maxRecDepth 100000 in
theorem tw_d157 : tw_cD 157 tt_157 = true := by decide +kernel
set_option maxRecDepth 100000 in
theorem tw_d158 : tw_cD 158 tt_158 = true := by decide +kernel
set_option maxRecDepth 100000 in
theorem tw_d159 : tw_cD 159 tt_159 = true := by decide +kernel
set_option maxRecDepth 100000 in
theorem tw_d160 : tw_cD 160 tt_160 = true := by decide +kernel
set_option maxRecDepth 100000 in
theorem tw_d161 : tw_cD 161 tt_161 = true := by decide +kernel
set_option maxRecDepth 100000 in
theorem tw_d162 : tw_cD 162 tt_162 = true := by decide +kernel
set_option maxRecDepth 100000 in
theorem tw_d163 : tw_cD 163 tt_163 = true := by decide +kernel
set_option maxRecDepth 100000 in
theorem tw_d164 : tw_cD 164 tt_164 = true := by decide +kernel
set_option maxRecDepth 100000 in
theorem tw_d165 : tw_cD 165 tt_165 = true := by decide +kernel
set_option maxRecDepth 100000 in
theorem tw_d166 : tw_cD 166 tt_166 = true := by decide +kernel
set_option maxRecDepth 100000 in
theorem tw_d167 : tw_cD 167 tt_167 = true := by decide +kernel
set_option maxRecDepth 100000 in
theorem tw_d168 : tw_cD 168 tt_168 = true := by decide +kernel
set_option maxRecDepth 100000 in
theorem tw_d169 : tw_cD 169 tt_169 = true := by decide +kernel
set_option maxRecDepth 100000 in
theorem tw_d170 : tw_cD 170 tt_170 = true := by decide +kernel
set_option maxRecDepth 100000 in
theorem tw_d171 : tw_cD 171 tt_171 = true := by decide +kernel
set_option maxRecDepth 100000 in
theorem tw_d172 : tw_cD 172 tt_172 = true := by decide +kernel
set_option maxRecDepth 100000 in
theorem tw_d173 : tw_cD 173 tt_173 = true := by decide +kernel
set_option maxRecDepth 100000 in
theorem tw_d174 : tw_cD 174 tt_174 = true := by decide +kernel
set_option maxRecDepth 100000 in
theorem tw_d175 : tw_cD 175 tt_175 = true := by decide +kernel
set_option maxRecDepth 100000 in
theorem tw_d176 : tw_cD 176 tt_176 = true := by decide +kernel
set_option maxRecDepth 100000 in
theorem tw_d177 : tw_cD 177 tt_177 = true := by decide +kernel
set_option maxRecDepth 100000 in
theorem tw_d178 : tw_cD 178 tt_178 = true := by decide +kernel
set_option maxRecDepth 100000 in
theorem tw_d179 : tw_cD 179 tt_179 = true := by decide +kernel
set_option maxRecDepth 100000 in
theorem tw_d180 : tw_cD 180 tt_180 = true := by decide +kernel
set_option maxRecDepth 100000 in
theorem tw_d181 : tw_cD 181 tt_181 = true := by decide +kernel
set_option maxRecDepth 100000 in
theorem tw_d182 : tw_cD 182 tt_182 = true := by decide +kernel
set_option maxRecDepth 100000 in
theorem tw_d183 : tw_cD 183 tt_183 = true := by decide +kernel
set_option maxRecDepth 100000 in
theorem tw_d184 : tw_cD 184 tt_184 = true := by decide +kernel
set_option maxRecDepth 100000 in
theorem tw_d185 : tw_cD 185 tt_185 = true := by decide +kernel
set_option maxRecDepth 100000 in
theorem tw_d186 : tw_cD 186 tt_186 = true := by decide +kernel
