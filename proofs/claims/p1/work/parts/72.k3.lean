set_option maxRecDepth 100000 in
theorem kt_k3 : (match kt_ns[51]? with
  | some q => kt_cut q (1, 3, 0) 0 2
  | none => false) = true := by decide +kernel
