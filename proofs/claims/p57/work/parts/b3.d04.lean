set_option maxRecDepth 100000 in
theorem tw_d0_b32 : (tt_0_b32.all (fun q => decide (decode (tw_cc 0) q.1 = .ok q.2))) = true := by decide +kernel
set_option maxRecDepth 100000 in
theorem tw_d0_b33 : (tt_0_b33.all (fun q => decide (decode (tw_cc 0) q.1 = .ok q.2))) = true := by decide +kernel
set_option maxRecDepth 100000 in
theorem tw_d0_b34 : (tt_0_b34.all (fun q => decide (decode (tw_cc 0) q.1 = .ok q.2))) = true := by decide +kernel
set_option maxRecDepth 100000 in
theorem tw_d0_b35 : (tt_0_b35.all (fun q => decide (decode (tw_cc 0) q.1 = .ok q.2))) = true := by decide +kernel
set_option maxRecDepth 100000 in
theorem tw_d0_b36 : (tt_0_b36.all (fun q => decide (decode (tw_cc 0) q.1 = .ok q.2))) = true := by decide +kernel
set_option maxRecDepth 100000 in
theorem tw_d0_b37 : (tt_0_b37.all (fun q => decide (decode (tw_cc 0) q.1 = .ok q.2))) = true := by decide +kernel
set_option maxRecDepth 100000 in
theorem tw_d0_b38 : (tt_0_b38.all (fun q => decide (decode (tw_cc 0) q.1 = .ok q.2))) = true := by decide +kernel
set_option maxRecDepth 100000 in
theorem tw_d0_b39 : (tt_0_b39.all (fun q => decide (decode (tw_cc 0) q.1 = .ok q.2))) = true := by decide +kernel
