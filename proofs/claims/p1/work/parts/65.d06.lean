set_option maxRecDepth 100000 in
theorem kt_d172 : kt_cD 172 kt_172 = true := by decide +kernel
set_option maxRecDepth 100000 in
theorem kt_d173 : kt_cD 173 kt_173 = true := by decide +kernel
set_option maxRecDepth 100000 in
theorem kt_d174 : kt_cD 174 kt_174 = true := by decide +kernel
set_option maxRecDepth 100000 in
theorem kt_d175 : kt_cD 175 kt_175 = true := by decide +kernel
set_option maxRecDepth 100000 in
theorem kt_d176 : kt_cD 176 kt_176 = true := by decide +kernel
set_option maxRecDepth 100000 in
theorem kt_d177 : kt_cD 177 kt_177 = true := by decide +kernel
set_option maxRecDepth 100000 in
theorem kt_d178 : kt_cD 178 kt_178 = true := by decide +kernel
set_option maxRecDepth 100000 in
theorem kt_d179 : kt_cD 179 kt_179 = true := by decide +kernel
