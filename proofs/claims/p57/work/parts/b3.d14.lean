set_option maxRecDepth 100000 in
theorem tw_d187 : tw_cD 187 tt_187 = true := by decide +kernel
set_option maxRecDepth 100000 in
theorem tw_d188 : tw_cD 188 tt_188 = true := by decide +kernel
set_option maxRecDepth 100000 in
theorem tw_d189 : tw_cD 189 tt_189 = true := by decide +kernel
set_option maxRecDepth 100000 in
theorem tw_d190 : tw_cD 190 tt_190 = true := by decide +kernel
set_option maxRecDepth 100000 in
theorem tw_d191 : tw_cD 191 tt_191 = true := by decide +kernel
set_option maxRecDepth 100000 in
theorem tw_d192 : tw_cD 192 tt_192 = true := by decide +kernel
set_option maxRecDepth 100000 in
theorem tw_d193 : tw_cD 193 tt_193 = true := by decide +kernel
set_option maxRecDepth 100000 in
theorem tw_d194 : tw_cD 194 tt_194 = true := by decide +kernel
set_option maxRecDepth 100000 in
theorem tw_d195 : tw_cD 195 tt_195 = true := by decide +kernel
set_option maxRecDepth 100000 in
theorem tw_d196 : tw_cD 196 tt_196 = true := by decide +kernel
