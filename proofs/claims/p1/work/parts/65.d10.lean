set_option maxRecDepth 100000 in
theorem kt_d0_b24 : (kt_0_b24.all (fun q => decide (decode (kt_cc 0) q.1 = .ok q.2))) = true := by decide +kernel
set_option maxRecDepth 100000 in
theorem kt_d0_b25 : (kt_0_b25.all (fun q => decide (decode (kt_cc 0) q.1 = .ok q.2))) = true := by decide +kernel
set_option maxRecDepth 100000 in
theorem kt_d0_b26 : (kt_0_b26.all (fun q => decide (decode (kt_cc 0) q.1 = .ok q.2))) = true := by decide +kernel
set_option maxRecDepth 100000 in
theorem kt_d0_b27 : (kt_0_b27.all (fun q => decide (decode (kt_cc 0) q.1 = .ok q.2))) = true := by decide +kernel
set_option maxRecDepth 100000 in
theorem kt_d0_b28 : (kt_0_b28.all (fun q => decide (decode (kt_cc 0) q.1 = .ok q.2))) = true := by decide +kernel
set_option maxRecDepth 100000 in
theorem kt_d0_b29 : (kt_0_b29.all (fun q => decide (decode (kt_cc 0) q.1 = .ok q.2))) = true := by decide +kernel
set_option maxRecDepth 100000 in
theorem kt_d0_b30 : (kt_0_b30.all (fun q => decide (decode (kt_cc 0) q.1 = .ok q.2))) = true := by decide +kernel
set_option maxRecDepth 100000 in
theorem kt_d0_b31 : (kt_0_b31.all (fun q => decide (decode (kt_cc 0) q.1 = .ok q.2))) = true := by decide +kernel
