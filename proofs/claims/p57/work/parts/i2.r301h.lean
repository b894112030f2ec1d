section
set_option maxRecDepth 1000000
theorem tm_a3_1_30 : tm_pj true true 1 30 = true := by decide +kernel
theorem tm_a3_1_31 : tm_pj true true 1 31 = true := by decide +kernel
theorem tm_a3_1_32 : tm_pj true true 1 32 = true := by decide +kernel
theorem tm_a3_1_33 : tm_pj true true 1 33 = true := by decide +kernel
theorem tm_a3_1_34 : tm_pj true true 1 34 = true := by decide +kernel
theorem tm_a3_1_35 : tm_pj true true 1 35 = true := by decide +kernel
theorem tm_a3_1 : tm_pc true true 1 1 = true := tm_pj.ok tm_kz3 (fun j hj => by
  match j, hj with
  | 0, _ => exact tm_a3_1_0
  | 1, _ => exact tm_a3_1_1
  | 2, _ => exact tm_a3_1_2
  | 3, _ => exact tm_a3_1_3
  | 4, _ => exact tm_a3_1_4
  | 5, _ => exact tm_a3_1_5
  | 6, _ => exact tm_a3_1_6
  | 7, _ => exact tm_a3_1_7
  | 8, _ => exact tm_a3_1_8
  | 9, _ => exact tm_a3_1_9
  | 10, _ => exact tm_a3_1_10
  | 11, _ => exact tm_a3_1_11
  | 12, _ => exact tm_a3_1_12
  | 13, _ => exact tm_a3_1_13
  | 14, _ => exact tm_a3_1_14
  | 15, _ => exact tm_a3_1_15
  | 16, _ => exact tm_a3_1_16
  | 17, _ => exact tm_a3_1_17
  | 18, _ => exact tm_a3_1_18
  | 19, _ => exact tm_a3_1_19
  | 20, _ => exact tm_a3_1_20
  | 21, _ => exact tm_a3_1_21
  | 22, _ => exact tm_a3_1_22
  | 23, _ => exact tm_a3_1_23
  | 24, _ => exact tm_a3_1_24
  | 25, _ => exact tm_a3_1_25
  | 26, _ => exact tm_a3_1_26
  | 27, _ => exact tm_a3_1_27
  | 28, _ => exact tm_a3_1_28
  | 29, _ => exact tm_a3_1_29
  | 30, _ => exact tm_a3_1_30
  | 31, _ => exact tm_a3_1_31
  | 32, _ => exact tm_a3_1_32
  | 33, _ => exact tm_a3_1_33
  | 34, _ => exact tm_a3_1_34
  | 35, _ => exact tm_a3_1_35
  | j + 36, hj => omega)
end
