set_option maxRecDepth 100000 in
theorem tw_d45 : tw_cD 45 tt_45 = true := by decide +kernel
set_option maxRecDepth 100000 in
theorem tw_d46 : tw_cD 46 tt_46 = true := by decide +kernel
set_option maxRecDepth 100000 in
theorem tw_d47 : tw_cD 47 tt_47 = true := by decide +kernel
set_option maxRecDepth 100000 in
theorem tw_d48 : tw_cD 48 tt_48 = true := by decide +kernel
set_option maxRecDepth 100000 in
theorem tw_d49 : tw_cD 49 tt_49 = true := by decide +kernel
set_option maxRecDepth 100000 in
theorem tw_d50 : tw_cD 50 tt_50 = true := by decide +kernel
set_option maxRecDepth 100000 in
theorem tw_d51 : tw_cD 51 tt_51 = true := by decide +kernel
set_option maxRecDepth 100000 in
theorem tw_d52 : tw_cD 52 tt_52 = true := by decide +kernel
set_option maxRecDepth 100000 in
theorem tw_d53 : tw_cD 53 tt_53 = true := by decide +kernel
set_option maxRecDepth 100000 in
theorem tw_d54 : tw_cD 54 tt_54 = true := by decide +kernel
set_option maxRecDepth 100000 in
theorem tw_d55 : tw_cD 55 tt_55 = true := by decide +kernel
set_option maxRecDepth 100000 in
theorem tw_d56 : tw_cD 56 tt_56 = true := by decide +kernel
set_option maxRecDepth 100000 in
theorem tw_d57 : tw_cD 57 tt_57 = true := by decide +kernel
set_option maxRecDepth 100000 in
theorem tw_d58 : tw_cD 58 tt_58 = true := by decide +kernel
set_option maxRecDepth 100000 in
theorem tw_d59 : tw_cD 59 tt_59 = true := by decide +kernel
set_option maxRecDepth 100000 in
theorem tw_d60 : tw_cD 60 tt_60 = true := by decide +kernel
set_option maxRecDepth 100000 in
theorem tw_d61 : tw_cD 61 tt_61 = true := by decide +kernel
set_option maxRecDepth 100000 in
theorem tw_d62 : tw_cD 62 tt_62 = true := by decide +kernel
set_option maxRecDepth 100000 in
theorem tw_d63 : tw_cD 63 tt_63 = true := by decide +kernel
set_option maxRecDepth 100000 in
theorem tw_d64 : tw_cD 64 tt_64 = true := by decide +kernel
set_option maxRecDepth 100000 in
theorem tw_d65 : tw_cD 65 tt_65 = true := by decide +kernel
set_option maxRecDepth 100000 in
theorem tw_d66 : tw_cD 66 tt_66 = true := by decide +kernel
set_option maxRecDepth 100000 in
theorem tw_d67 : tw_cD 67 tt_67 = true := by decide +kernel
set_option maxRecDepth 100000 in
theorem tw_d68 : tw_cD 68 tt_68 = true := by decide +kernel
set_option maxRecDepth 100000 in
theorem tw_d69 : tw_cD 69 tt_69 = true := by decide +kernel
set_option maxRecDepth 100000 in
theorem tw_d70 : tw_cD 70 tt_70 = true := by decide +kernel
set_option maxRecDepth 100000 in
theorem tw_d71 : tw_cD 71 tt_71 = true := by decide +kernel
set_option maxRecDepth 100000 in
theorem tw_d72 : tw_cD 72 tt_72 = true := by decide +kernel
set_option maxRecDepth 100000 in
theorem tw_d73 : tw_cD 73 tt_73 = true := by decide +kernel
set_option maxRecDepth 100000 in
theorem tw_d74 : tw_cD 74 tt_74 = true := by decide +kernel
set_option maxRecDepth 100000 in
theorem tw_d75 : tw_cD 75 tt_75 = true := by decide +kernel
set_option maxRecDepth 100000 in
theorem tw_d76 : tw_cD 76 tt_76 = true := by decide +kernel
set_option maxRecDepth 100000 in
theorem tw_d77 : tw_cD 77 tt_77 = true := by decide +kernel
set_option maxRecDepth 100000 in
theorem tw_d78 : tw_cD 78 tt_78 = true := by decide +kernel
set_option maxRecDepth 100000 in
theorem tw_d79 : tw_cD 79 tt_79 = true := by decide +kernel
set_option maxRecDepth 100000 in
theorem tw_d80 : tw_cD 80 tt_80 = true := by decide +kernel
set_option maxRecDepth 100000 in
theorem tw_d81 : tw_cD 81 tt_81 = true := by decide +kernel
