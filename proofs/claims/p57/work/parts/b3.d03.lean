set_option maxRecDepth 100000 in
theorem tw_d0_b24 : (tt_0_b24.all (fun q => decide (decode (tw_cc 0) q.1 = .ok q.2))) = true := by decide +kernel
set_option maxRecDepth 100000 in
theorem tw_d0_b25 : (tt_0_b25.all (fun q => decide (decode (tw_cc 0) q.1 = .ok q.2))) = true := by decide +kernel
set_option maxRecDepth 100000 in
theorem tw_d0_b26 : (tt_0_b26.all (fun q => decide (decode (tw_cc 0) q.1 = .ok q.2))) = true := by decide +kernel
set_option maxRecDepth 100000 in
theorem tw_d0_b27 : (tt_0_b27.all (fun q => decide (decode (tw_cc 0) q.1 = .ok q.2))) = true := by decide +kernel
set_option maxRecDepth 100000 in
theorem tw_d0_b28 : (tt_0_b28.all (fun q => decide (decode (tw_cc 0) q.1 = .ok q.2))) = true := by decide +kernel
set_option maxRecDepth 100000 in
theorem tw_d0_b29 : (tt_0_b29.all (fun q => decide (decode (tw_cc 0) q.1 = .ok q.2))) = true := by decide +kernel
set_option maxRecDepth 100000 in
theorem tw_d0_b30 : (tt_0_b30.all (fun q => decide (decode (tw_cc 0) q.1 = .ok q.2))) = true := by decide +kernel
set_option maxRecDepth 100000 in
theorem tw_d0_b31 : (tt_0_b31.all (fun q => decide (decode (tw_cc 0) q.1 = .ok q.2))) = true := by decide +kernel
