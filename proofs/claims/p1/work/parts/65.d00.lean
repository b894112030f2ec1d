set_option maxRecDepth 100000 in
theorem kt_d1 : kt_cD 1 kt_1 = true := by decide +kernel
set_option maxRecDepth 100000 in
theorem kt_d2 : kt_cD 2 kt_2 = true := by decide +kernel
set_option maxRecDepth 100000 in
theorem kt_d3 : kt_cD 3 kt_3 = true := by decide +kernel
set_option maxRecDepth 100000 in
theorem kt_d4 : kt_cD 4 kt_4 = true := by decide +kernel
set_option maxRecDepth 100000 in
theorem kt_d5 : kt_cD 5 kt_5 = true := by decide +kernel
set_option maxRecDepth 100000 in
theorem kt_d6 : kt_cD 6 kt_6 = true := by decide +kernel
set_option maxRecDepth 100000 in
theorem kt_d7 : kt_cD 7 kt_7 = true := by decide +kernel
set_option maxRecDepth 100000 in
theorem kt_d8 : kt_cD 8 kt_8 = true := by decide +kernel
set_option maxRecDepth 100000 in
theorem kt_d9 : kt_cD 9 kt_9 = true := by decide +kernel
set_option maxRecDepth 100000 in
theorem kt_d10 : kt_cD 10 kt_10 = true := by decide +kernel
set_option maxRecDepth 100000 in
theorem kt_d11 : kt_cD 11 kt_11 = true := by decide +kernel
set_option maxRecDepth 100000 in
theorem kt_d12 : kt_cD 12 kt_12 = true := by decide +kernel
set_option maxRecDepth 100000 in
theorem kt_d13 : kt_cD 13 kt_13 = true := by decide +kernel
set_option maxRecDepth 100000 in
theorem kt_d14 : kt_cD 14 kt_14 = true := by decide +kernel
set_option maxRecDepth 100000 in
theorem kt_d15 : kt_cD 15 kt_15 = true := by decide +kernel
set_option maxRecDepth 100000 in
theorem kt_d16 : kt_cD 16 kt_16 = true := by decide +kernel
set_option maxRecDepth 100000 in
theorem kt_d17 : kt_cD 17 kt_17 = true := by decide +kernel
set_option maxRecDepth 100000 in
theorem kt_d18 : kt_cD 18 kt_18 = true := by decide +kernel
set_option maxRecDepth 100000 in
theorem kt_d19 : kt_cD 19 kt_19 = true := by decide +kernel
set_option maxRecDepth 100000 in
theorem kt_d20 : kt_cD 20 kt_20 = true := by decide +kernel
set_option maxRecDepth 100000 in
theorem kt_d21 : kt_cD 21 kt_21 = true := by decide +kernel
set_option maxRecDepth 100000 in
theorem kt_d22 : kt_cD 22 kt_22 = true := by decide +kernel
set_option maxRecDepth 100000 in
theorem kt_d23 : kt_cD 23 kt_23 = true := by decide +kernel
set_option maxRecDepth 100000 in
theorem kt_d24 : kt_cD 24 kt_24 = true := by decide +kernel
set_option maxRecDepth 100000 in
theorem kt_d25 : kt_cD 25 kt_25 = true := by decide +kernel
set_option maxRecDepth 100000 in
theorem kt_d26 : kt_cD 26 kt_26 = true := by decide +kernel
set_option maxRecDepth 100000 in
theorem kt_d27 : kt_cD 27 kt_27 = true := by decide +kernel
set_option maxRecDepth 100000 in
theorem kt_d28 : kt_cD 28 kt_28 = true := by decide +kernel
set_option maxRecDepth 100000 in
theorem kt_d29 : kt_cD 29 kt_29 = true := by decide +kernel
set_option maxRecDepth 100000 in
theorem kt_d30 : kt_cD 30 kt_30 = true := by decide +kernel
set_option maxRecDepth 100000 in
theorem kt_d31 : kt_cD 31 kt_31 = true := by decide +kernel
set_option maxRecDepth 100000 in
theorem kt_d32 : kt_cD 32 kt_32 = true := by decide +kernel
set_option maxRecDepth 100000 in
theorem kt_d33 : kt_cD 33 kt_33 = true := by decide +kernel
set_option maxRecDepth 100000 in
theorem kt_d34 : kt_cD 34 kt_34 = true := by decide +kernel
set_option maxRecDepth 100000 in
theorem kt_d35 : kt_cD 35 kt_35 = true := by decide +kernel
set_option maxRecDepth 100000 in
theorem kt_d36 : kt_cD 36 kt_36 = true := by decide +kernel
set_option maxRecDepth 100000 in
theorem kt_d37 : kt_cD 37 kt_37 = true := by decide +kernel
set_option maxRecDepth 100000 in
theorem kt_d38 : kt_cD 38 kt_38 = true := by decide +kernel
set_option maxRecDepth 100000 in
theorem kt_d39 : kt_cD 39 kt_39 = true := by decide +kernel
