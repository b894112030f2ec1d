set_option maxRecDepth 100000 in
theorem kt_e0 : (match kc_run kt_T 3000 0 [33] [(0, kt_S0)] [] with
  | some os => os.all (fun o => match Nat.beq o.1 33 with
    | true => kt_eqS o.2 kt_S1
    | false => decide (o.2.2.2.1 = [(1, 0, 1)]))
  | none => false) = true := by decide +kernel
set_option maxRecDepth 100000 in
theorem kt_len : kt_ns.length = 57 := by decide +kernel
