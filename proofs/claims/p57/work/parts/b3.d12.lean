set_option maxRecDepth 100000 in
theorem tw_d151_b0 : (tt_151_b0.all (fun q => decide (decode (tw_cc 151) q.1 = .ok q.2))) = true := by decide +kernel
set_option maxRecDepth 100000 in
theorem tw_d151_b1 : (tt_151_b1.all (fun q => decide (decode (tw_cc 151) q.1 = .ok q.2))) = true := by decide +kernel
set_option maxRecDepth 100000 in
theorem tw_d151_b2 : (tt_151_b2.all (fun q => decide (decode (tw_cc 151) q.1 = .ok q.2))) = true := by decide +kernel
set_option maxRecDepth 100000 in
theorem tw_d151_b3 : (tt_151_b3.all (fun q => decide (decode (tw_cc 151) q.1 = .ok q.2))) = true := by decide +kernel
set_option maxRecDepth 100000 in
theorem tw_d151_b4 : (tt_151_b4.all (fun q => decide (decode (tw_cc 151) q.1 = .ok q.2))) = true := by decide +kernel
set_option maxRecDepth 100000 in
theorem tw_d151_b5 : (tt_151_b5.all (fun q => decide (decode (tw_cc 151) q.1 = .ok q.2))) = true := by decide +kernel
set_option maxRecDepth 100000 in
theorem tw_d151_b6 : (tt_151_b6.all (fun q => decide (decode (tw_cc 151) q.1 = .ok q.2))) = true := by decide +kernel
set_option maxRecDepth 100000 in
theorem tw_d151_b7 : (tt_151_b7.all (fun q => decide (decode (tw_cc 151) q.1 = .ok q.2))) = true := by decide +kernel
set_option maxRecDepth 100000 in
theorem tw_d151_b8 : (tt_151_b8.all (fun q => decide (decode (tw_cc 151) q.1 = .ok q.2))) = true := by decide +kernel
set_option maxRecDepth 100000 in
theorem tw_d151_b9 : (tt_151_b9.all (fun q => decide (decode (tw_cc 151) q.1 = .ok q.2))) = true := by decide +kernel
set_option maxRecDepth 100000 in
theorem tw_d151_b10 : (tt_151_b10.all (fun q => decide (decode (tw_cc 151) q.1 = .ok q.2))) = true := by decide +kernel
set_option maxRecDepth 100000 in
theorem tw_d151_b11 : (tt_151_b11.all (fun q => decide (decode (tw_cc 151) q.1 = .ok q.2))) = true := by decide +kernel
set_option maxRecDepth 100000 in
theorem tw_d151_b12 : (tt_151_b12.all (fun q => decide (decode (tw_cc 151) q.1 = .ok q.2))) = true := by decide +kernel
theorem tw_d151 : tw_cD 151 tt_151 = true := by
  unfold tw_cD tw_all2 tt_151
  rw [List.all_cons, tw_d151_b0, List.all_cons, tw_d151_b1, List.all_cons, tw_d151_b2, List.all_cons, tw_d151_b3, List.all_cons, tw_d151_b4, List.all_cons, tw_d151_b5, List.all_cons, tw_d151_b6, List.all_cons, tw_d151_b7, List.all_cons, tw_d151_b8, List.all_cons, tw_d151_b9, List.all_cons, tw_d151_b10, List.all_cons, tw_d151_b11, List.all_cons, tw_d151_b12]
  rfl
