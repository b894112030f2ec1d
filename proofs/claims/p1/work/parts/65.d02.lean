set_option maxRecDepth 100000 in
theorem kt_d82 : kt_cD 82 kt_82 = true := by decide +kernel
set_option maxRecDepth 100000 in
theorem kt_d83 : kt_cD 83 kt_83 = true := by decide +kernel
set_option maxRecDepth 100000 in
theorem kt_d84 : kt_cD 84 kt_84 = true := by decide +kernel
set_option maxRecDepth 100000 in
theorem kt_d85 : kt_cD 85 kt_85 = true := by decide +kernel
set_option maxRecDepth 100000 in
theorem kt_d86 : kt_cD 86 kt_86 = true := by decide +kernel
set_option maxRecDepth 100000 in
theorem kt_d87 : kt_cD 87 kt_87 = true := by decide +kernel
set_option maxRecDepth 100000 in
theorem kt_d88 : kt_cD 88 kt_88 = true := by decide +kernel
set_option maxRecDepth 100000 in
theorem kt_d89 : kt_cD 89 kt_89 = true := by decide +kernel
set_option maxRecDepth 100000 in
theorem kt_d90 : kt_cD 90 kt_90 = true := by decide +kernel
set_option maxRecDepth 100000 in
theorem kt_d91 : kt_cD 91 kt_91 = true := by decide +kernel
set_option maxRecDepth 100000 in
theorem kt_d92 : kt_cD 92 kt_92 = true := by decide +kernel
set_option maxRecDepth 100000 in
theorem kt_d93 : kt_cD 93 kt_93 = true := by decide +kernel
