set_option maxRecDepth 100000 in
theorem kt_d0_b8 : (kt_0_b8.all (fun q => decide (decode (kt_cc 0) q.1 = .ok q.2))) = true := by decide +kernel
set_option maxRecDepth 100000 in
theorem kt_d0_b9 : (kt_0_b9.all (fun q => decide (decode (kt_cc 0) q.1 = .ok q.2))) = true := by decide +kernel
set_option maxRecDepth 100000 in
theorem kt_d0_b10 : (kt_0_b10.all (fun q => decide (decode (kt_cc 0) q.1 = .ok q.2))) = true := by decide +kernel
set_option maxRecDepth 100000 in
theorem kt_d0_b11 : (kt_0_b11.all (fun q => decide (decode (kt_cc 0) q.1 = .ok q.2))) = true := by decide +kernel
set_option maxRecDepth 100000 in
theorem kt_d0_b12 : (kt_0_b12.all (fun q => decide (decode (kt_cc 0) q.1 = .ok q.2))) = true := by decide +kernel
set_option maxRecDepth 100000 in
theorem kt_d0_b13 : (kt_0_b13.all (fun q => decide (decode (kt_cc 0) q.1 = .ok q.2))) = true := by decide +kernel
set_option maxRecDepth 100000 in
theorem kt_d0_b14 : (kt_0_b14.all (fun q => decide (decode (kt_cc 0) q.1 = .ok q.2))) = true := by decide +kernel
set_option maxRecDepth 100000 in
theorem kt_d0_b15 : (kt_0_b15.all (fun q => decide (decode (kt_cc 0) q.1 = .ok q.2))) = true := by decide +kernel
