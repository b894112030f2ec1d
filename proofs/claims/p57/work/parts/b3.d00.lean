set_option maxRecDepth 100000 in
theorem tw_d0_b0 : (tt_0_b0.all (fun q => decide (decode (tw_cc 0) q.1 = .ok q.2))) = true := by decide +kernel
set_option maxRecDepth 100000 in
theorem tw_d0_b1 : (tt_0_b1.all (fun q => decide (decode (tw_cc 0) q.1 = .ok q.2))) = true := by decide +kernel
set_option maxRecDepth 100000 in
theorem tw_d0_b2 : (tt_0_b2.all (fun q => decide (decode (tw_cc 0) q.1 = .ok q.2))) = true := by decide +kernel
set_option maxRecDepth 100000 in
theorem tw_d0_b3 : (tt_0_b3.all (fun q => decide (decode (tw_cc 0) q.1 = .ok q.2))) = true := by decide +kernel
set_option maxRecDepth 100000 in
theorem tw_d0_b4 : (tt_0_b4.all (fun q => decide (decode (tw_cc 0) q.1 = .ok q.2))) = true := by decide +kernel
set_option maxRecDepth 100000 in
theorem tw_d0_b5 : (tt_0_b5.all (fun q => decide (decode (tw_cc 0) q.1 = .ok q.2))) = true := by decide +kernel
set_option maxRecDepth 100000 in
theorem tw_d0_b6 : (tt_0_b6.all (fun q => decide (decode (tw_cc 0) q.1 = .ok q.2))) = true := by decide +kernel
set_option maxRecDepth 100000 in
theorem tw_d0_b7 : (tt_0_b7.all (fun q => decide (decode (tw_cc 0) q.1 = .ok q.2))) = true := by decide +kernel
