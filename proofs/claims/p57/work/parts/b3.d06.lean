set_option maxRecDepth 100000 in
theorem tw_d1 : tw_cD 1 tt_1 = true := by decide +kernel
set_option maxRecDepth 100000 in
theorem tw_d2 : tw_cD 2 tt_2 = true := by decide +kernel
set_option maxRecDepth 100000 in
theorem tw_d3 : tw_cD 3 tt_3 = true := by decide +kernel
set_option maxRecDepth 100000 in
theorem tw_d4 : tw_cD 4 tt_4 = true := by decide +kernel
set_option maxRecDepth 100000 in
theorem tw_d5 : tw_cD 5 tt_5 = true := by decide +kernel
set_option maxRecDepth 100000 in
theorem tw_d6 : tw_cD 6 tt_6 = true := by decide +kernel
set_option maxRecDepth 100000 in
theorem tw_d7 : tw_cD 7 tt_7 = true := by decide +kernel
set_option maxRecDepth 100000 in
theorem tw_d8 : tw_cD 8 tt_8 = true := by decide +kernel
set_option maxRecDepth 100000 in
theorem tw_d9 : tw_cD 9 tt_9 = true := by decide +kernel
set_option maxRecDepth 100000 in
theorem tw_d10 : tw_cD 10 tt_10 = true := by decide +kernel
set_option maxRecDepth 100000 in
theorem tw_d11 : tw_cD 11 tt_11 = true := by decide +kernel
set_option maxRecDepth 100000 in
theorem tw_d12 : tw_cD 12 tt_12 = true := by decide +kernel
set_option maxRecDepth 100000 in
theorem tw_d13 : tw_cD 13 tt_13 = true := by decide +kernel
set_option maxRecDepth 100000 in
theorem tw_d14 : tw_cD 14 tt_14 = true := by decide +kernel
set_option maxRecDepth 100000 in
theorem tw_d15 : tw_cD 15 tt_15 = true := by decide +kernel
set_option maxRecDepth 100000 in
theorem tw_d16 : tw_cD 16 tt_16 = true := by decide +kernel
set_option maxRecDepth 100000 in
theorem tw_d17 : tw_cD 17 tt_17 = true := by decide +kernel
set_option maxRecDepth 100000 in
theorem tw_d18 : tw_cD 18 tt_18 = true := by decide +kernel
set_option maxRecDepth 100000 in
theorem tw_d19 : tw_cD 19 tt_19 = true := by decide +kernel
set_option maxRecDepth 100000 in
theorem tw_d20 : tw_cD 20 tt_20 = true := by decide +kernel
set_option maxRecDepth 100000 in
theorem tw_d21 : tw_cD 21 tt_21 = true := by decide +kernel
set_option maxRecDepth 100000 in
theorem tw_d22 : tw_cD 22 tt_22 = true := by decide +kernel
set_option maxRecDepth 100000 in
theorem tw_d23 : tw_cD 23 tt_23 = true := by decide +kernel
set_option maxRecDepth 100000 in
theorem tw_d24 : tw_cD 24 tt_24 = true := by decide +kernel
set_option maxRecDepth 100000 in
theorem tw_d25 : tw_cD 25 tt_25 = true := by decide +kernel
set_option maxRecDepth 100000 in
theorem tw_d26 : tw_cD 26 tt_26 = true := by decide +kernel
set_option maxRecDepth 100000 in
theorem tw_d27 : tw_cD 27 tt_27 = true := by decide +kernel
set_option maxRecDepth 100000 in
theorem tw_d28 : tw_cD 28 tt_28 = true := by decide +kernel
set_option maxRecDepth 100000 in
theorem tw_d29 : tw_cD 29 tt_29 = true := by decide +kernel
set_option maxRecDepth 100000 in
theorem tw_d30 : tw_cD 30 tt_30 = true := by decide +kernel
set_option maxRecDepth 100000 in
theorem tw_d31 : tw_cD 31 tt_31 = true := by decide +kernel
set_option maxRecDepth 100000 in
theorem tw_d32 : tw_cD 32 tt_32 = true := by decide +kernel
set_option maxRecDepth 100000 in
theorem tw_d33 : tw_cD 33 tt_33 = true := by decide +kernel
set_option maxRecDepth 100000 in
theorem tw_d34 : tw_cD 34 tt_34 = true := by decide +kernel
set_option maxRecDepth 100000 in
theorem tw_d35 : tw_cD 35 tt_35 = true := by decide +kernel
set_option maxRecDepth 100000 in
theorem tw_d36 : tw_cD 36 tt_36 = true := by decide +kernel
set_option maxRecDepth 100000 in
theorem tw_d37 : tw_cD 37 tt_37 = true := by decide +kernel
set_option maxRecDepth 100000 in
theorem tw_d38 : tw_cD 38 tt_38 = true := by decide +kernel
set_option maxRecDepth 100000 in
theorem tw_d39 : tw_cD 39 tt_39 = true := by decide +kernel
set_option maxRecDepth 100000 in
theorem tw_d40 : tw_cD 40 tt_40 = true := by decide +kernel
set_option maxRecDepth 100000 in
theorem tw_d41 : tw_cD 41 tt_41 = true := by decide +kernel
set_option maxRecDepth 100000 in
theorem tw_d42 : tw_cD 42 tt_42 = true := by decide +kernel
set_option maxRecDepth 100000 in
theorem tw_d43 : tw_cD 43 tt_43 = true := by decide +kernel
set_option maxRecDepth 100000 in
theorem tw_d44 : tw_cD 44 tt_44 = true := by decide +kernel
