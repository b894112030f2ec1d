set_option maxRecDepth 100000 in
theorem tw_d141_b0 : (tt_141_b0.all (fun q => decide (decode (tw_cc 141) q.1 = .ok q.2))) = true := by decide +kernel
set_option maxRecDepth 100000 in
theorem tw_d141_b1 : (tt_141_b1.all (fun q => decide (decode (tw_cc 141) q.1 = .ok q.2))) = true := by decide +kernel
set_option maxRecDepth 100000 in
theorem tw_d141_b2 : (tt_141_b2.all (fun q => decide (decode (tw_cc 141) q.1 = .ok q.2))) = true := by decide +kernel
set_option maxRecDepth 100000 in
theorem tw_d141_b3 : (tt_141_b3.all (fun q => decide (decode (tw_cc 141) q.1 = .ok q.2))) = true := by decide +kernel
set_option maxRecDepth 100000 in
theorem tw_d141_b4 : (tt_141_b4.all (fun q => decide (decode (tw_cc 141) q.1 = .ok q.2))) = true := by decide +kernel
set_option maxRecDepth 100000 in
theorem tw_d141_b5 : (tt_141_b5.all (fun q => decide (decode (tw_cc 141) q.1 = .ok q.2))) = true := by decide +kernel
set_option maxRecDepth 100000 in
theorem tw_d141_b6 : (tt_141_b6.all (fun q => decide (decode (tw_cc 141) q.1 = .ok q.2))) = true := by decide +kernel
set_option maxRecDepth 100000 in
theorem tw_d141_b7 : (tt_141_b7.all (fun q => decide (decode (tw_cc 141) q.1 = .ok q.2))) = true := by decide +kernel
set_option maxRecDepth 100000 in
theorem tw_d141_b8 : (tt_141_b8.all (fun q => decide (decode (tw_cc 141) q.1 = .ok q.2))) = true := by decide +kernel
set_option maxRecDepth 100000 in
theorem tw_d141_b9 : (tt_141_b9.all (fun q => decide (decode (tw_cc 141) q.1 = .ok q.2))) = true := by decide +kernel
set_option maxRecDepth 100000 in
theorem tw_d141_b10 : (tt_141_b10.all (fun q => decide (decode (tw_cc 141) q.1 = .ok q.2))) = true := by decide +kernel
set_option maxRecDepth 100000 in
theorem tw_d141_b11 : (tt_141_b11.all (fun q => decide (decode (tw_cc 141) q.1 = .ok q.2))) = true := by decide +kernel
set_option maxRecDepth 100000 in
theorem tw_d141_b12 : (tt_141_b12.all (fun q => decide (decode (tw_cc 141) q.1 = .ok q.2))) = true := by decide +kernel
set_option maxRecDepth 100000 in
theorem tw_d141_b13 : (tt_141_b13.all (fun q => decide (decode (tw_cc 141) q.1 = .ok q.2))) = true := by decide +kernel
set_option maxRecDepth 100000 in
theorem tw_d141_b14 : (tt_141_b14.all (fun q => decide (decode (tw_cc 141) q.1 = .ok q.2))) = true := by decide +kernel
set_option maxRecDepth 100000 in
theorem tw_d141_b15 : (tt_141_b15.all (fun q => decide (decode (tw_cc 141) q.1 = .ok q.2))) = true := by decide +kernel
set_option maxRecDepth 100000 in
theorem tw_d141_b16 : (tt_141_b16.all (fun q => decide (decode (tw_cc 141) q.1 = .ok q.2))) = true := by decide +kernel
set_option maxRecDepth 100000 in
theorem tw_d141_b17 : (tt_141_b17.all (fun q => decide (decode (tw_cc 141) q.1 = .ok q.2))) = true := by decide +kernel
set_option maxRecDepth 100000 in
theorem tw_d141_b18 : (tt_141_b18.all (fun q => decide (decode (tw_cc 141) q.1 = .ok q.2))) = true := by decide +kernel
set_option maxRecDepth 100000 in
theorem tw_d141_b19 : (tt_141_b19.all (fun q => decide (decode (tw_cc 141) q.1 = .ok q.2))) = true := by decide +kernel
set_option maxRecDepth 100000 in
theorem tw_d141_b20 : (tt_141_b20.all (fun q => decide (decode (tw_cc 141) q.1 = .ok q.2))) = true := by decide +kernel
theorem tw_d141 : tw_cD 141 tt_141 = true := by
  unfold tw_cD tw_all2 tt_141
  rw [List.all_cons, tw_d141_b0, List.all_cons, tw_d141_b1, List.all_cons, tw_d141_b2, List.all_cons, tw_d141_b3, List.all_cons, tw_d141_b4, List.all_cons, tw_d141_b5, List.all_cons, tw_d141_b6, List.all_cons, tw_d141_b7, List.all_cons, tw_d141_b8, List.all_cons, tw_d141_b9, List.all_cons, tw_d141_b10, List.all_cons, tw_d141_b11, List.all_cons, tw_d141_b12, List.all_cons, tw_d141_b13, List.all_cons, tw_d141_b14, List.all_cons, tw_d141_b15, List.all_cons, tw_d141_b16, List.all_cons, tw_d141_b17, List.all_cons, tw_d141_b18, List.all_cons, tw_d141_b19, List.all_cons, tw_d141_b20]
  rfl
