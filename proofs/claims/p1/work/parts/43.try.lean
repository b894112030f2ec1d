set_option maxRecDepth 100000 in
theorem kt_try : (match kc_run kt_T 3000 0 [] [(0, kt_S0)] [] with
  | some os => os.all (fun o => decide (o.2.2.2.1 = [(1, 0, 1)]))
  | none => false) = true := by decide +kernel
