set_option maxRecDepth 100000 in
theorem kt_d94 : kt_cD 94 kt_94 = true := by decide +kernel
set_option maxRecDepth 100000 in
theorem kt_d95 : kt_cD 95 kt_95 = true := by decide +kernel
set_option maxRecDepth 100000 in
theorem kt_d96 : kt_cD 96 kt_96 = true := by decide +kernel
set_option maxRecDepth 100000 in
theorem kt_d97 : kt_cD 97 kt_97 = true := by decide +kernel
set_option maxRecDepth 100000 in
theorem kt_d98 : kt_cD 98 kt_98 = true := by decide +kernel
set_option maxRecDepth 100000 in
theorem kt_d99 : kt_cD 99 kt_99 = true := by decide +kernel
set_option maxRecDepth 100000 in
theorem kt_d100 : kt_cD 100 kt_100 = true := by decide +kernel
set_option maxRecDepth 100000 in
theorem kt_d101 : kt_cD 101 kt_101 = true := by decide +kernel
set_option maxRecDepth 100000 in
theorem kt_d102 : kt_cD 102 kt_102 = true := by decide +kernel
set_option maxRecDepth 100000 in
theorem kt_d103 : kt_cD 103 kt_103 = true := by decide +kernel
set_option maxRecDepth 100000 in
theorem kt_d104 : kt_cD 104 kt_104 = true := by decide +kernel
set_option maxRecDepth 100000 in
theorem kt_d105 : kt_cD 105 kt_105 = true := by decide +kernel
set_option maxRecDepth 100000 in
theorem kt_d106 : kt_cD 106 kt_106 = true := by decide +kernel
set_option maxRecDepth 100000 in
theorem kt_d107 : kt_cD 107 kt_107 = true := by decide +kernel
set_option maxRecDepth 100000 in
theorem kt_d108 : kt_cD 108 kt_108 = true := by decide +kernel
set_option maxRecDepth 100000 in
theorem kt_d109 : kt_cD 109 kt_109 = true := by decide +kernel
set_option maxRecDepth 100000 in
theorem kt_d110 : kt_cD 110 kt_110 = true := by decide +kernel
set_option maxRecDepth 100000 in
theorem kt_d111 : kt_cD 111 kt_111 = true := by decide +kernel
set_option maxRecDepth 100000 in
theorem kt_d112 : kt_cD 112 kt_112 = true := by decide +kernel
set_option maxRecDepth 100000 in
theorem kt_d113 : kt_cD 113 kt_113 = true := by decide +kernel
set_option maxRecDepth 100000 in
theorem kt_d114 : kt_cD 114 kt_114 = true := by decide +kernel
set_option maxRecDepth 100000 in
theorem kt_d115 : kt_cD 115 kt_115 = true := by decide +kernel
set_option maxRecDepth 100000 in
theorem kt_d116 : kt_cD 116 kt_116 = true := by decide +kernel
set_option maxRecDepth 100000 in
theorem kt_d117 : kt_cD 117 kt_117 = true := by decide +kernel
