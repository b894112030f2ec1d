set_option maxRecDepth 100000 in
theorem tw_d197_b0 : (tt_197_b0.all (fun q => decide (decode (tw_cc 197) q.1 = .ok q.2))) = true := by decide +kernel
set_option maxRecDepth 100000 in
theorem tw_d197_b1 : (tt_197_b1.all (fun q => decide (decode (tw_cc 197) q.1 = .ok q.2))) = true := by decide +kernel
set_option maxRecDepth 100000 in
theorem tw_d197_b2 : (tt_197_b2.all (fun q => decide (decode (tw_cc 197) q.1 = .ok q.2))) = true := by decide +kernel
set_option maxRecDepth 100000 in
theorem tw_d197_b3 : (tt_197_b3.all (fun q => decide (decode (tw_cc 197) q.1 = .ok q.2))) = true := by decide +kernel
set_option maxRecDepth 100000 in
theorem tw_d197_b4 : (tt_197_b4.all (fun q => decide (decode (tw_cc 197) q.1 = .ok q.2))) = true := by decide +kernel
set_option maxRecDepth 100000 in
theorem tw_d197_b5 : (tt_197_b5.all (fun q => decide (decode (tw_cc 197) q.1 = .ok q.2))) = true := by decide +kernel
set_option maxRecDepth 100000 in
theorem tw_d197_b6 : (tt_197_b6.all (fun q => decide (decode (tw_cc 197) q.1 = .ok q.2))) = true := by decide +kernel
set_option maxRecDepth 100000 in
theorem tw_d197_b7 : (tt_197_b7.all (fun q => decide (decode (tw_cc 197) q.1 = .ok q.2))) = true := by decide +kernel
set_option maxRecDepth 100000 in
theorem tw_d197_b8 : (tt_197_b8.all (fun q => decide (decode (tw_cc 197) q.1 = .ok q.2))) = true := by decide +kernel
set_option maxRecDepth 100000 in
theorem tw_d197_b9 : (tt_197_b9.all (fun q => decide (decode (tw_cc 197) q.1 = .ok q.2))) = true := by decide +kernel
set_option maxRecDepth 100000 in
theorem tw_d197_b10 : (tt_197_b10.all (fun q => decide (decode (tw_cc 197) q.1 = .ok q.2))) = true := by decide +kernel
set_option maxRecDepth 100000 in
theorem tw_d197_b11 : (tt_197_b11.all (fun q => decide (decode (tw_cc 197) q.1 = .ok q.2))) = true := by decide +kernel
set_option maxRecDepth 100000 in
theorem tw_d197_b12 : (tt_197_b12.all (fun q => decide (decode (tw_cc 197) q.1 = .ok q.2))) = true := by decide +kernel
set_option maxRecDepth 100000 in
theorem tw_d197_b13 : (tt_197_b13.all (fun q => decide (decode (tw_cc 197) q.1 = .ok q.2))) = true := by decide +kernel
theorem tw_d197 : tw_cD 197 tt_197 = true := by
  unfold tw_cD tw_all2 tt_197
  rw [List.all_cons, tw_d197_b0, List.all_cons, tw_d197_b1, List.all_cons, tw_d197_b2, List.all_cons, tw_d197_b3, List.all_cons, tw_d197_b4, List.all_cons, tw_d197_b5, List.all_cons, tw_d197_b6, List.all_cons, tw_d197_b7, List.all_cons, tw_d197_b8, List.all_cons, tw_d197_b9, List.all_cons, tw_d197_b10, List.all_cons, tw_d197_b11, List.all_cons, tw_d197_b12, List.all_cons, tw_d197_b13]
  rfl
