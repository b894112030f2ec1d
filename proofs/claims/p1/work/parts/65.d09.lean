set_option maxRecDepth 100000 in
theorem kt_d0_b16 : (kt_0_b16.all (fun q => decide (decode (kt_cc 0) q.1 = .ok q.2))) = true := by decide +kernel
set_option maxRecDepth 100000 in
theorem kt_d0_b17 : (kt_0_b17.all (fun q => decide (decode (kt_cc 0) q.1 = .ok q.2))) = true := by decide +kernel
set_option maxRecDepth 100000 in
theorem kt_d0_b18 : (kt_0_b18.all (fun q => decide (decode (kt_cc 0) q.1 = .ok q.2))) = true := by decide +kernel
set_option maxRecDepth 100000 in
theorem kt_d0_b19 : (kt_0_b19.all (fun q => decide (decode (kt_cc 0) q.1 = .ok q.2))) = true := by decide +kernel
set_option maxRecDepth 100000 in
theorem kt_d0_b20 : (kt_0_b20.all (fun q => decide (decode (kt_cc 0) q.1 = .ok q.2))) = true := by decide +kernel
set_option maxRecDepth 100000 in
theorem kt_d0_b21 : (kt_0_b21.all (fun q => decide (decode (kt_cc 0) q.1 = .ok q.2))) = true := by decide +kernel
set_option maxRecDepth 100000 in
theorem kt_d0_b22 : (kt_0_b22.all (fun q => decide (decode (kt_cc 0) q.1 = .ok q.2))) = true := by decide +kernel
set_option maxRecDepth 100000 in
theorem kt_d0_b23 : (kt_0_b23.all (fun q => decide (decode (kt_cc 0) q.1 = .ok q.2))) = true := by decide +kernel
