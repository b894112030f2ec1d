set_option maxRecDepth 100000 in
theorem kt_d40 : kt_cD 40 kt_40 = true := by decide +kernel
set_option maxRecDepth 100000 in
theorem kt_d41 : kt_cD 41 kt_41 = true := by decide +kernel
set_option maxRecDepth 100000 in
theorem kt_d42 : kt_cD 42 kt_42 = true := by decide +kernel
set_option maxRecDepth 100000 in
theorem kt_d43 : kt_cD 43 kt_43 = true := by decide +kernel
set_option maxRecDepth 100000 in
theorem kt_d44 : kt_cD 44 kt_44 = true := by decide +kernel
set_option maxRecDepth 100000 in
theorem kt_d45 : kt_cD 45 kt_45 = true := by decide +kernel
set_option maxRecDepth 100000 in
theorem kt_d46 : kt_cD 46 kt_46 = true := by decide +kernel
set_option maxRecDepth 100000 in
theorem kt_d47 : kt_cD 47 kt_47 = true := by decide +kernel
set_option maxRecDepth 100000 in
theorem kt_d48 : kt_cD 48 kt_48 = true := by decide +kernel
set_option maxRecDepth 100000 in
theorem kt_d49 : kt_cD 49 kt_49 = true := by decide +kernel
set_option maxRecDepth 100000 in
theorem kt_d50 : kt_cD 50 kt_50 = true := by decide +kernel
set_option maxRecDepth 100000 in
theorem kt_d51 : kt_cD 51 kt_51 = true := by decide +kernel
set_option maxRecDepth 100000 in
theorem kt_d52 : kt_cD 52 kt_52 = true := by decide +kernel
set_option maxRecDepth 100000 in
theorem kt_d53 : kt_cD 53 kt_53 = true := by decide +kernel
set_option maxRecDepth 100000 in
theorem kt_d54 : kt_cD 54 kt_54 = true := by decide +kernel
set_option maxRecDepth 100000 in
theorem kt_d55 : kt_cD 55 kt_55 = true := by decide +kernel
set_option maxRecDepth 100000 in
theorem kt_d56 : kt_cD 56 kt_56 = true := by decide +kernel
set_option maxRecDepth 100000 in
theorem kt_d57 : kt_cD 57 kt_57 = true := by decide +kernel
set_option maxRecDepth 100000 in
theorem kt_d58 : kt_cD 58 kt_58 = true := by decide +kernel
set_option maxRecDepth 100000 in
theorem kt_d59 : kt_cD 59 kt_59 = true := by decide +kernel
set_option maxRecDepth 100000 in
theorem kt_d60 : kt_cD 60 kt_60 = true := by decide +kernel
set_option maxRecDepth 100000 in
theorem kt_d61 : kt_cD 61 kt_61 = true := by decide +kernel
set_option maxRecDepth 100000 in
theorem kt_d62 : kt_cD 62 kt_62 = true := by decide +kernel
set_option maxRecDepth 100000 in
theorem kt_d63 : kt_cD 63 kt_63 = true := by decide +kernel
set_option maxRecDepth 100000 in
theorem kt_d64 : kt_cD 64 kt_64 = true := by decide +kernel
set_option maxRecDepth 100000 in
theorem kt_d65 : kt_cD 65 kt_65 = true := by decide +kernel
set_option maxRecDepth 100000 in
theorem kt_d66 : kt_cD 66 kt_66 = true := by decide +kernel
set_option maxRecDepth 100000 in
theorem kt_d67 : kt_cD 67 kt_67 = true := by decide +kernel
set_option maxRecDepth 100000 in
theorem kt_d68 : kt_cD 68 kt_68 = true := by decide +kernel
set_option maxRecDepth 100000 in
theorem kt_d69 : kt_cD 69 kt_69 = true := by decide +kernel
set_option maxRecDepth 100000 in
theorem kt_d70 : kt_cD 70 kt_70 = true := by decide +kernel
set_option maxRecDepth 100000 in
theorem kt_d71 : kt_cD 71 kt_71 = true := by decide +kernel
set_option maxRecDepth 100000 in
theorem kt_d72 : kt_cD 72 kt_72 = true := by decide +kernel
set_option maxRecDepth 100000 in
theorem kt_d73 : kt_cD 73 kt_73 = true := by decide +kernel
set_option maxRecDepth 100000 in
theorem kt_d74 : kt_cD 74 kt_74 = true := by decide +kernel
set_option maxRecDepth 100000 in
theorem kt_d75 : kt_cD 75 kt_75 = true := by decide +kernel
set_option maxRecDepth 100000 in
theorem kt_d76 : kt_cD 76 kt_76 = true := by decide +kernel
set_option maxRecDepth 100000 in
theorem kt_d77 : kt_cD 77 kt_77 = true := by decide +kernel
set_option maxRecDepth 100000 in
theorem kt_d78 : kt_cD 78 kt_78 = true := by decide +kernel
set_option maxRecDepth 100000 in
theorem kt_d79 : kt_cD 79 kt_79 = true := by decide +kernel
set_option maxRecDepth 100000 in
theorem kt_d80 : kt_cD 80 kt_80 = true := by decide +kernel
set_option maxRecDepth 100000 in
theorem kt_d81 : kt_cD 81 kt_81 = true := by decide +kernel
