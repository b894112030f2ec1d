set_option maxRecDepth 100000 in
theorem kt_d0_b32 : (kt_0_b32.all (fun q => decide (decode (kt_cc 0) q.1 = .ok q.2))) = true := by decide +kernel
set_option maxRecDepth 100000 in
theorem kt_d0_b33 : (kt_0_b33.all (fun q => decide (decode (kt_cc 0) q.1 = .ok q.2))) = true := by decide +kernel
set_option maxRecDepth 100000 in
theorem kt_d0_b34 : (kt_0_b34.all (fun q => decide (decode (kt_cc 0) q.1 = .ok q.2))) = true := by decide +kernel
set_option maxRecDepth 100000 in
theorem kt_d0_b35 : (kt_0_b35.all (fun q => decide (decode (kt_cc 0) q.1 = .ok q.2))) = true := by decide +kernel
set_option maxRecDepth 100000 in
theorem kt_d0_b36 : (kt_0_b36.all (fun q => decide (decode (kt_cc 0) q.1 = .ok q.2))) = true := by decide +kernel
set_option maxRecDepth 100000 in
theorem kt_d0_b37 : (kt_0_b37.all (fun q => decide (decode (kt_cc 0) q.1 = .ok q.2))) = true := by decide +kernel
set_option maxRecDepth 100000 in
theorem kt_d0_b38 : (kt_0_b38.all (fun q => decide (decode (kt_cc 0) q.1 = .ok q.2))) = true := by decide +kernel
theorem kt_d0 : kt_cD 0 kt_0 = true := by
  unfold kt_cD kt_all2 kt_0
  rw [List.all_cons, kt_d0_b0, List.all_cons, kt_d0_b1, List.all_cons, kt_d0_b2, List.all_cons, kt_d0_b3, List.all_cons, kt_d0_b4, List.all_cons, kt_d0_b5, List.all_cons, kt_d0_b6, List.all_cons, kt_d0_b7, List.all_cons, kt_d0_b8, List.all_cons, kt_d0_b9, List.all_cons, kt_d0_b10, List.all_cons, kt_d0_b11, List.all_cons, kt_d0_b12, List.all_cons, kt_d0_b13, List.all_cons, kt_d0_b14, List.all_cons, kt_d0_b15, List.all_cons, kt_d0_b16, List.all_cons, kt_d0_b17, List.all_cons, kt_d0_b18, List.all_cons, kt_d0_b19, List.all_cons, kt_d0_b20, List.all_cons, kt_d0_b21, List.all_cons, kt_d0_b22, List.all_cons, kt_d0_b23, List.all_cons, kt_d0_b24, List.all_cons, kt_d0_b25, List.all_cons, kt_d0_b26, List.all_cons, kt_d0_b27, List.all_cons, kt_d0_b28, List.all_cons, kt_d0_b29, List.all_cons, kt_d0_b30, List.all_cons, kt_d0_b31, List.all_cons, kt_d0_b32, List.all_cons, kt_d0_b33, List.all_cons, kt_d0_b34, List.all_cons, kt_d0_b35, List.all_cons, kt_d0_b36, List.all_cons, kt_d0_b37, List.all_cons, kt_d0_b38]
  rfl
