section
set_option maxRecDepth 1000000
theorem tm_a2_3_90 : tm_pj true false 3 90 = true := by decide +kernel
theorem tm_a2_3_91 : tm_pj true false 3 91 = true := by decide +kernel
theorem tm_a2_3_92 : tm_pj true false 3 92 = true := by decide +kernel
theorem tm_a2_3_93 : tm_pj true false 3 93 = true := by decide +kernel
theorem tm_a2_3_94 : tm_pj true false 3 94 = true := by decide +kernel
theorem tm_a2_3_95 : tm_pj true false 3 95 = true := by decide +kernel
theorem tm_a2_3_96 : tm_pj true false 3 96 = true := by decide +kernel
theorem tm_a2_3_97 : tm_pj true false 3 97 = true := by decide +kernel
theorem tm_a2_3_98 : tm_pj true false 3 98 = true := by decide +kernel
theorem tm_a2_3_99 : tm_pj true false 3 99 = true := by decide +kernel
theorem tm_a2_3_100 : tm_pj true false 3 100 = true := by decide +kernel
theorem tm_a2_3_101 : tm_pj true false 3 101 = true := by decide +kernel
theorem tm_a2_3_102 : tm_pj true false 3 102 = true := by decide +kernel
theorem tm_a2_3_103 : tm_pj true false 3 103 = true := by decide +kernel
theorem tm_a2_3_104 : tm_pj true false 3 104 = true := by decide +kernel
theorem tm_a2_3_105 : tm_pj true false 3 105 = true := by decide +kernel
theorem tm_a2_3_106 : tm_pj true false 3 106 = true := by decide +kernel
theorem tm_a2_3_107 : tm_pj true false 3 107 = true := by decide +kernel
theorem tm_a2_3 : tm_pc true false 3 1 = true := tm_pj.ok tm_kr2_3 (fun j hj => by
  match j, hj with
  | 0, _ => exact tm_a2_3_0
  | 1, _ => exact tm_a2_3_1
  | 2, _ => exact tm_a2_3_2
  | 3, _ => exact tm_a2_3_3
  | 4, _ => exact tm_a2_3_4
  | 5, _ => exact tm_a2_3_5
  | 6, _ => exact tm_a2_3_6
  | 7, _ => exact tm_a2_3_7
  | 8, _ => exact tm_a2_3_8
  | 9, _ => exact tm_a2_3_9
  | 10, _ => exact tm_a2_3_10
  | 11, _ => exact tm_a2_3_11
  | 12, _ => exact tm_a2_3_12
  | 13, _ => exact tm_a2_3_13
  | 14, _ => exact tm_a2_3_14
  | 15, _ => exact tm_a2_3_15
  | 16, _ => exact tm_a2_3_16
  | 17, _ => exact tm_a2_3_17
  | 18, _ => exact tm_a2_3_18
  | 19, _ => exact tm_a2_3_19
  | 20, _ => exact tm_a2_3_20
  | 21, _ => exact tm_a2_3_21
  | 22, _ => exact tm_a2_3_22
  | 23, _ => exact tm_a2_3_23
  | 24, _ => exact tm_a2_3_24
  | 25, _ => exact tm_a2_3_25
  | 26, _ => exact tm_a2_3_26
  | 27, _ => exact tm_a2_3_27
  | 28, _ => exact tm_a2_3_28
  | 29, _ => exact tm_a2_3_29
  | 30, _ => exact tm_a2_3_30
  | 31, _ => exact tm_a2_3_31
  | 32, _ => exact tm_a2_3_32
  | 33, _ => exact tm_a2_3_33
  | 34, _ => exact tm_a2_3_34
  | 35, _ => exact tm_a2_3_35
  | 36, _ => exact tm_a2_3_36
  | 37, _ => exact tm_a2_3_37
  | 38, _ => exact tm_a2_3_38
  | 39, _ => exact tm_a2_3_39
  | 40, _ => exact tm_a2_3_40
  | 41, _ => exact tm_a2_3_41
  | 42, _ => exact tm_a2_3_42
  | 43, _ => exact tm_a2_3_43
  | 44, _ => exact tm_a2_3_44
  | 45, _ => exact tm_a2_3_45
  | 46, _ => exact tm_a2_3_46
  | 47, _ => exact tm_a2_3_47
  | 48, _ => exact tm_a2_3_48
  | 49, _ => exact tm_a2_3_49
  | 50, _ => exact tm_a2_3_50
  | 51, _ => exact tm_a2_3_51
  | 52, _ => exact tm_a2_3_52
  | 53, _ => exact tm_a2_3_53
  | 54, _ => exact tm_a2_3_54
  | 55, _ => exact tm_a2_3_55
  | 56, _ => exact tm_a2_3_56
  | 57, _ => exact tm_a2_3_57
  | 58, _ => exact tm_a2_3_58
  | 59, _ => exact tm_a2_3_59
  | 60, _ => exact tm_a2_3_60
  | 61, _ => exact tm_a2_3_61
  | 62, _ => exact tm_a2_3_62
  | 63, _ => exact tm_a2_3_63
  | 64, _ => exact tm_a2_3_64
  | 65, _ => exact tm_a2_3_65
  | 66, _ => exact tm_a2_3_66
  | 67, _ => exact tm_a2_3_67
  | 68, _ => exact tm_a2_3_68
  | 69, _ => exact tm_a2_3_69
  | 70, _ => exact tm_a2_3_70
  | 71, _ => exact tm_a2_3_71
  | 72, _ => exact tm_a2_3_72
  | 73, _ => exact tm_a2_3_73
  | 74, _ => exact tm_a2_3_74
  | 75, _ => exact tm_a2_3_75
  | 76, _ => exact tm_a2_3_76
  | 77, _ => exact tm_a2_3_77
  | 78, _ => exact tm_a2_3_78
  | 79, _ => exact tm_a2_3_79
  | 80, _ => exact tm_a2_3_80
  | 81, _ => exact tm_a2_3_81
  | 82, _ => exact tm_a2_3_82
  | 83, _ => exact tm_a2_3_83
  | 84, _ => exact tm_a2_3_84
  | 85, _ => exact tm_a2_3_85
  | 86, _ => exact tm_a2_3_86
  | 87, _ => exact tm_a2_3_87
  | 88, _ => exact tm_a2_3_88
  | 89, _ => exact tm_a2_3_89
  | 90, _ => exact tm_a2_3_90
  | 91, _ => exact tm_a2_3_91
  | 92, _ => exact tm_a2_3_92
  | 93, _ => exact tm_a2_3_93
  | 94, _ => exact tm_a2_3_94
  | 95, _ => exact tm_a2_3_95
  | 96, _ => exact tm_a2_3_96
  | 97, _ => exact tm_a2_3_97
  | 98, _ => exact tm_a2_3_98
  | 99, _ => exact tm_a2_3_99
  | 100, _ => exact tm_a2_3_100
  | 101, _ => exact tm_a2_3_101
  | 102, _ => exact tm_a2_3_102
  | 103, _ => exact tm_a2_3_103
  | 104, _ => exact tm_a2_3_104
  | 105, _ => exact tm_a2_3_105
  | 106, _ => exact tm_a2_3_106
  | 107, _ => exact tm_a2_3_107
  | j + 108, hj => omega)
end
