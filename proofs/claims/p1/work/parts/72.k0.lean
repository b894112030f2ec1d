set_option maxRecDepth 100000 in
theorem kt_k0 : (match kt_ns[51]? with
  | some q => kt_cut q (1, 3, 0) 2 0
  | none => false) = true := by decide +kernel
