set_option maxRecDepth 100000 in
theorem tw_d0_b16 : (tt_0_b16.all (fun q => decide (decode (tw_cc 0) q.1 = .ok q.2))) = true := by decide +kernel
set_option maxRecDepth 100000 in
theorem tw_d0_b17 : (tt_0_b17.all (fun q => decide (decode (tw_cc 0) q.1 = .ok q.2))) = true := by decide +kernel
set_option maxRecDepth 100000 in
theorem tw_d0_b18 : (tt_0_b18.all (fun q => decide (decode (tw_cc 0) q.1 = .ok q.2))) = true := by decide +kernel
set_option maxRecDepth 100000 in
theorem tw_d0_b19 : (tt_0_b19.all (fun q => decide (decode (tw_cc 0) q.1 = .ok q.2))) = true := by decide +kernel
set_option maxRecDepth 100000 in
theorem tw_d0_b20 : (tt_0_b20.all (fun q => decide (decode (tw_cc 0) q.1 = .ok q.2))) = true := by decide +kernel
set_option maxRecDepth 100000 in
theorem tw_d0_b21 : (tt_0_b21.all (fun q => decide (decode (tw_cc 0) q.1 = .ok q.2))) = true := by decide +kernel
set_option maxRecDepth 100000 in
theorem tw_d0_b22 : (tt_0_b22.all (fun q => decide (decode (tw_cc 0) q.1 = .ok q.2))) = true := by decide +kernel
set_option maxRecDepth 100000 in
theorem tw_d0_b23 : (tt_0_b23.all (fun q => decide (decode (tw_cc 0) q.1 = .ok q.2))) = true := by decide +kernel
