set_option maxRecDepth 1000000 in
theorem tm_a10 : tm_all true false = true := by decide +kernel
set_option maxRecDepth 1000000 in
theorem tm_a11 : tm_all true true = true := by decide +kernel
theorem tm_aa : ∀ b d : Bool, tm_all b d = true
  | false, false => tm_a00
  | false, true => tm_a01
  | true, false => tm_a10
  | true, true => tm_a11
