set_option maxRecDepth 100000 in
theorem tw_d0_b8 : (tt_0_b8.all (fun q => decide (decode (tw_cc 0) q.1 = .ok q.2))) = true := by decide +kernel
set_option maxRecDepth 100000 in
theorem tw_d0_b9 : (tt_0_b9.all (fun q => decide (decode (tw_cc 0) q.1 = .ok q.2))) = true := by decide +kernel
set_option maxRecDepth 100000 in
theorem tw_d0_b10 : (tt_0_b10.all (fun q => decide (decode (tw_cc 0) q.1 = .ok q.2))) = true := by decide +kernel
set_option maxRecDepth 100000 in
theorem tw_d0_b11 : (tt_0_b11.all (fun q => decide (decode (tw_cc 0) q.1 = .ok q.2))) = true := by decide +kernel
set_option maxRecDepth 100000 in
theorem tw_d0_b12 : (tt_0_b12.all (fun q => decide (decode (tw_cc 0) q.1 = .ok q.2))) = true := by decide +kernel
set_option maxRecDepth 100000 in
theorem tw_d0_b13 : (tt_0_b13.all (fun q => decide (decode (tw_cc 0) q.1 = .ok q.2))) = true := by decide +kernel
set_option maxRecDepth 100000 in
theorem tw_d0_b14 : (tt_0_b14.all (fun q => decide (decode (tw_cc 0) q.1 = .ok q.2))) = true := by decide +kernel
set_option maxRecDepth 100000 in
theorem tw_d0_b15 : (tt_0_b15.all (fun q => decide (decode (tw_cc 0) q.1 = .ok q.2))) = true := by decide +kernel
