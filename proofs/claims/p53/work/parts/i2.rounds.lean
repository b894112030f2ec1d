/-! ===== all rounds of the law, by the kernel ===== -/
def tm_all (b d : Bool) : Bool := match tm_go (fun _ => []) 200 tm_stp [(18, tm_h b d)] [] with
  | some ns => ns.all (fun q => tm_do tm_tab b 2176 200 0 0 q.1 q.2)
  | none => false
set_option maxRecDepth 1000000 in
theorem tm_a00 : tm_all false false = true := by decide +kernel
set_option maxRecDepth 1000000 in
theorem tm_a01 : tm_all false true = true := by decide +kernel
