set_option maxRecDepth 100000 in
theorem tw_d82 : tw_cD 82 tt_82 = true := by decide +kernel
set_option maxRecDepth 100000 in
theorem tw_d83 : tw_cD 83 tt_83 = true := by decide +kernel
set_option maxRecDepth 100000 in
theorem tw_d84 : tw_cD 84 tt_84 = true := by decide +kernel
set_option maxRecDepth 100000 in
theorem tw_d85 : tw_cD 85 tt_85 = true := by decide +kernel
set_option maxRecDepth 100000 in
theorem tw_d86 : tw_cD 86 tt_86 = true := by decide +kernel
set_option maxRecDepth 100000 in
theorem tw_d87 : tw_cD 87 tt_87 = true := by decide +kernel
set_option maxRecDepth 100000 in
theorem tw_d88 : tw_cD 88 tt_88 = true := by decide +kernel
set_option maxRecDepth 100000 in
theorem tw_d89 : tw_cD 89 tt_89 = true := by decide +kernel
set_option maxRecDepth 100000 in
theorem tw_d90 : tw_cD 90 tt_90 = true := by decide +kernel
set_option maxRecDepth 100000 in
theorem tw_d91 : tw_cD 91 tt_91 = true := by decide +kernel
set_option maxRecDepth 100000 in
theorem tw_d92 : tw_cD 92 tt_92 = true := by decide +kernel
set_option maxRecDepth 100000 in
theorem tw_d93 : tw_cD 93 tt_93 = true := by decide +kernel
set_option maxRecDepth 100000 in
theorem tw_d94 : tw_cD 94 tt_94 = true := by decide +kernel
set_option maxRecDepth 100000 in
theorem tw_d95 : tw_cD 95 tt_95 = true := by decide +kernel
set_option maxRecDepth 100000 in
theorem tw_d96 : tw_cD 96 tt_96 = true := by decide +kernel
set_option maxRecDepth 100000 in
theorem tw_d97 : tw_cD 97 tt_97 = true := by decide +kernel
set_option maxRecDepth 100000 in
theorem tw_d98 : tw_cD 98 tt_98 = true := by decide +kernel
set_option maxRecDepth 100000 in
theorem tw_d99 : tw_cD 99 tt_99 = true := by decide +kernel
set_option maxRecDepth 100000 in
theorem tw_d100 : tw_cD 100 tt_100 = true := by decide +kernel
set_option maxRecDepth 100000 in
theorem tw_d101 : tw_cD 101 tt_101 = true := by decide +kernel
set_option maxRecDepth 100000 in
theorem tw_d102 : tw_cD 102 tt_102 = true := by decide +kernel
set_option maxRecDepth 100000 in
theorem tw_d103 : tw_cD 103 tt_103 = true := by decide +kernel
set_option maxRecDepth 100000 in
theorem tw_d104 : tw_cD 104 tt_104 = true := by decide +kernel
set_option maxRecDepth 100000 in
theorem tw_d105 : tw_cD 105 tt_105 = true := by decide +kernel
set_option maxRecDepth 100000 in
theorem tw_d106 : tw_cD 106 tt_106 = true := by decide +kernel
set_option maxRecDepth 100000 in
theorem tw_d107 : tw_cD 107 tt_107 = true := by decide +kernel
set_option maxRecDepth 100000 in
theorem tw_d108 : tw_cD 108 tt_108 = true := by decide +kernel
set_option maxRecDepth 100000 in
theorem tw_d109 : tw_cD 109 tt_109 = true := by decide +kernel
set_option maxRecDepth 100000 in
theorem tw_d110 : tw_cD 110 tt_110 = true := by decide +kernel
set_option maxRecDepth 100000 in
theorem tw_d111 : tw_cD 111 tt_111 = true := by decide +kernel
set_option maxRecDepth 100000 in
theorem tw_d112 : tw_cD 112 tt_112 = true := by decide +kernel
set_option maxRecDepth 100000 in
theorem tw_d113 : tw_cD 113 tt_113 = true := by decide +kernel
set_option maxRecDepth 100000 in
theorem tw_d114 : tw_cD 114 tt_114 = true := by decide +kernel
set_option maxRecDepth 100000 in
theorem tw_d115 : tw_cD 115 tt_115 = true := by decide +kernel
set_option maxRecDepth 100000 in
theorem tw_d116 : tw_cD 116 tt_116 = true := by decide +kernel
set_option maxRecDepth 100000 in
theorem tw_d117 : tw_cD 117 tt_117 = true := by decide +kernel
set_option maxRecDepth 100000 in
theorem tw_d118 : tw_cD 118 tt_118 = true := by decide +kernel
set_option maxRecDepth 100000 in
theorem tw_d119 : tw_cD 119 tt_119 = true := by decide +kernel
set_option maxRecDepth 100000 in
theorem tw_d120 : tw_cD 120 tt_120 = true := by decide +kernel
set_option maxRecDepth 100000 in
theorem tw_d121 : tw_cD 121 tt_121 = true := by decide +kernel
set_option maxRecDepth 100000 in
theorem tw_d122 : tw_cD 122 tt_122 = true := by decide +kernel
set_option maxRecDepth 100000 in
theorem tw_d123 : tw_cD 123 tt_123 = true := by decide +kernel
set_option maxRecDepth 100000 in
theorem tw_d124 : tw_cD 124 tt_124 = true := by decide +kernel
set_option maxRecDepth 100000 in
theorem tw_d125 : tw_cD 125 tt_125 = true := by decide +kernel
