set_option maxRecDepth 100000 in
theorem tw_d142 : tw_cD 142 tt_142 = true := by decide +kernel
set_option maxRecDepth 100000 in
theorem tw_d143 : tw_cD 143 tt_143 = true := by decide +kernel
set_option maxRecDepth 100000 in
theorem tw_d144 : tw_cD 144 tt_144 = true := by decide +kernel
set_option maxRecDepth 100000 in
theorem tw_d145 : tw_cD 145 tt_145 = true := by decide +kernel
set_option maxRecDepth 100000 in
theorem tw_d146 : tw_cD 146 tt_146 = true := by decide +kernel
set_option maxRecDepth 100000 in
theorem tw_d147 : tw_cD 147 tt_147 = true := by decide +kernel
set_option maxRecDepth 100000 in
theorem tw_d148 : tw_cD 148 tt_148 = true := by decide +kernel
set_option maxRecDepth 100000 in
theorem tw_d149 : tw_cD 149 tt_149 = true := by decide +kernel
set_option maxRecDepth 100000 in
theorem tw_d150 : tw_cD 150 tt_150 = true := by decide +kernel
