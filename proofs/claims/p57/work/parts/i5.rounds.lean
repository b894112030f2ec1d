set_option maxRecDepth 1000000 in
theorem tm_a3 : tm_all true true = true := by decide +kernel
theorem tm_aa : ∀ b d : Bool, tm_all b d = true
  | false, false => tm_a0
  | false, true => tm_a1
  | true, false => tm_a2
  | true, true => tm_a3
