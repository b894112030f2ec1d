section
set_option maxRecDepth 1000000
theorem tm_a2_2_8 : tm_pj true false 2 8 = true := by decide +kernel
theorem tm_a2_2_9 : tm_pj true false 2 9 = true := by decide +kernel
theorem tm_a2_2_10 : tm_pj true false 2 10 = true := by decide +kernel
theorem tm_a2_2_11 : tm_pj true false 2 11 = true := by decide +kernel
theorem tm_a2_2 : tm_pc true false 2 1 = true := tm_pj.ok tm_kz2 (fun j hj => by
  match j, hj with
  | 0, _ => exact tm_a2_2_0
  | 1, _ => exact tm_a2_2_1
  | 2, _ => exact tm_a2_2_2
  | 3, _ => exact tm_a2_2_3
  | 4, _ => exact tm_a2_2_4
  | 5, _ => exact tm_a2_2_5
  | 6, _ => exact tm_a2_2_6
  | 7, _ => exact tm_a2_2_7
  | 8, _ => exact tm_a2_2_8
  | 9, _ => exact tm_a2_2_9
  | 10, _ => exact tm_a2_2_10
  | 11, _ => exact tm_a2_2_11
  | j + 12, hj => omega)
end
