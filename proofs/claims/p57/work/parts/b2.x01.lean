set_option maxRecDepth 100000 in
theorem tw_cw61 : Jvm.Cond.code (tw_nm 61) (tw_cc 61) (tt_mi 61).1 (tw_rt 61) ∈ tw_Ts := tw_in2 (h := (6, 114)) rfl rfl
set_option maxRecDepth 100000 in
theorem tw_cw62 : Jvm.Cond.code (tw_nm 62) (tw_cc 62) (tt_mi 62).1 (tw_rt 62) ∈ tw_Ts := tw_in2 (h := (4, 174)) rfl rfl
set_option maxRecDepth 100000 in
theorem tw_cw63 : Jvm.Cond.code (tw_nm 63) (tw_cc 63) (tt_mi 63).1 (tw_rt 63) ∈ tw_Ts := tw_in2 (h := (5, 79)) rfl rfl
set_option maxRecDepth 100000 in
theorem tw_cw64 : Jvm.Cond.code (tw_nm 64) (tw_cc 64) (tt_mi 64).1 (tw_rt 64) ∈ tw_Ts := tw_in2 (h := (4, 59)) rfl rfl
set_option maxRecDepth 100000 in
theorem tw_cw65 : Jvm.Cond.code (tw_nm 65) (tw_cc 65) (tt_mi 65).1 (tw_rt 65) ∈ tw_Ts := tw_in2 (h := (6, 111)) rfl rfl
set_option maxRecDepth 100000 in
theorem tw_cw66 : Jvm.Cond.code (tw_nm 66) (tw_cc 66) (tt_mi 66).1 (tw_rt 66) ∈ tw_Ts := tw_in2 (h := (6, 82)) rfl rfl
set_option maxRecDepth 100000 in
theorem tw_cw67 : Jvm.Cond.code (tw_nm 67) (tw_cc 67) (tt_mi 67).1 (tw_rt 67) ∈ tw_Ts := tw_in2 (h := (5, 9)) rfl rfl
set_option maxRecDepth 100000 in
theorem tw_cw68 : Jvm.Cond.code (tw_nm 68) (tw_cc 68) (tt_mi 68).1 (tw_rt 68) ∈ tw_Ts := tw_in2 (h := (4, 178)) rfl rfl
set_option maxRecDepth 100000 in
theorem tw_cw69 : Jvm.Cond.code (tw_nm 69) (tw_cc 69) (tt_mi 69).1 (tw_rt 69) ∈ tw_Ts := tw_in2 (h := (6, 7)) rfl rfl
set_option maxRecDepth 100000 in
theorem tw_cw70 : Jvm.Cond.code (tw_nm 70) (tw_cc 70) (tt_mi 70).1 (tw_rt 70) ∈ tw_Ts := tw_in2 (h := (3, 228)) rfl rfl
set_option maxRecDepth 100000 in
theorem tw_cw71 : Jvm.Cond.code (tw_nm 71) (tw_cc 71) (tt_mi 71).1 (tw_rt 71) ∈ tw_Ts := tw_in2 (h := (4, 199)) rfl rfl
set_option maxRecDepth 100000 in
theorem tw_cw72 : Jvm.Cond.code (tw_nm 72) (tw_cc 72) (tt_mi 72).1 (tw_rt 72) ∈ tw_Ts := tw_in2 (h := (6, 54)) rfl rfl
set_option maxRecDepth 100000 in
theorem tw_cw73 : Jvm.Cond.code (tw_nm 73) (tw_cc 73) (tt_mi 73).1 (tw_rt 73) ∈ tw_Ts := tw_in2 (h := (5, 226)) rfl rfl
set_option maxRecDepth 100000 in
theorem tw_cw74 : Jvm.Cond.code (tw_nm 74) (tw_cc 74) (tt_mi 74).1 (tw_rt 74) ∈ tw_Ts := tw_in2 (h := (5, 221)) rfl rfl
set_option maxRecDepth 100000 in
theorem tw_cw75 : Jvm.Cond.code (tw_nm 75) (tw_cc 75) (tt_mi 75).1 (tw_rt 75) ∈ tw_Ts := tw_in2 (h := (6, 66)) rfl rfl
set_option maxRecDepth 100000 in
theorem tw_cw76 : Jvm.Cond.code (tw_nm 76) (tw_cc 76) (tt_mi 76).1 (tw_rt 76) ∈ tw_Ts := tw_in2 (h := (5, 59)) rfl rfl
set_option maxRecDepth 100000 in
theorem tw_cw77 : Jvm.Cond.code (tw_nm 77) (tw_cc 77) (tt_mi 77).1 (tw_rt 77) ∈ tw_Ts := tw_in2 (h := (5, 204)) rfl rfl
set_option maxRecDepth 100000 in
theorem tw_cw78 : Jvm.Cond.code (tw_nm 78) (tw_cc 78) (tt_mi 78).1 (tw_rt 78) ∈ tw_Ts := tw_in2 (h := (5, 208)) rfl rfl
set_option maxRecDepth 100000 in
theorem tw_cw79 : Jvm.Cond.code (tw_nm 79) (tw_cc 79) (tt_mi 79).1 (tw_rt 79) ∈ tw_Ts := tw_in2 (h := (6, 37)) rfl rfl
set_option maxRecDepth 100000 in
theorem tw_cw80 : Jvm.Cond.code (tw_nm 80) (tw_cc 80) (tt_mi 80).1 (tw_rt 80) ∈ tw_Ts := tw_in2 (h := (6, 41)) rfl rfl
set_option maxRecDepth 100000 in
theorem tw_cw81 : Jvm.Cond.code (tw_nm 81) (tw_cc 81) (tt_mi 81).1 (tw_rt 81) ∈ tw_Ts := tw_in2 (h := (6, 49)) rfl rfl
set_option maxRecDepth 100000 in
theorem tw_cw82 : Jvm.Cond.code (tw_nm 82) (tw_cc 82) (tt_mi 82).1 (tw_rt 82) ∈ tw_Ts := tw_in2 (h := (5, 172)) rfl rfl
set_option maxRecDepth 100000 in
theorem tw_cw83 : Jvm.Cond.code (tw_nm 83) (tw_cc 83) (tt_mi 83).1 (tw_rt 83) ∈ tw_Ts := tw_in2 (h := (6, 137)) rfl rfl
set_option maxRecDepth 100000 in
theorem tw_cw84 : Jvm.Cond.code (tw_nm 84) (tw_cc 84) (tt_mi 84).1 (tw_rt 84) ∈ tw_Ts := tw_in2 (h := (3, 43)) rfl rfl
set_option maxRecDepth 100000 in
theorem tw_cw85 : Jvm.Cond.code (tw_nm 85) (tw_cc 85) (tt_mi 85).1 (tw_rt 85) ∈ tw_Ts := tw_in2 (h := (4, 131)) rfl rfl
set_option maxRecDepth 100000 in
theorem tw_cw86 : Jvm.Cond.code (tw_nm 86) (tw_cc 86) (tt_mi 86).1 (tw_rt 86) ∈ tw_Ts := tw_in2 (h := (4, 111)) rfl rfl
set_option maxRecDepth 100000 in
theorem tw_cw87 : Jvm.Cond.code (tw_nm 87) (tw_cc 87) (tt_mi 87).1 (tw_rt 87) ∈ tw_Ts := tw_in2 (h := (4, 147)) rfl rfl
set_option maxRecDepth 100000 in
theorem tw_cw88 : Jvm.Cond.code (tw_nm 88) (tw_cc 88) (tt_mi 88).1 (tw_rt 88) ∈ tw_Ts := tw_in2 (h := (5, 217)) rfl rfl
set_option maxRecDepth 100000 in
theorem tw_cw89 : Jvm.Cond.code (tw_nm 89) (tw_cc 89) (tt_mi 89).1 (tw_rt 89) ∈ tw_Ts := tw_in2 (h := (5, 133)) rfl rfl
set_option maxRecDepth 100000 in
theorem tw_cw90 : Jvm.Cond.code (tw_nm 90) (tw_cc 90) (tt_mi 90).1 (tw_rt 90) ∈ tw_Ts := tw_in2 (h := (6, 118)) rfl rfl
set_option maxRecDepth 100000 in
theorem tw_cw91 : Jvm.Cond.code (tw_nm 91) (tw_cc 91) (tt_mi 91).1 (tw_rt 91) ∈ tw_Ts := tw_in2 (h := (6, 78)) rfl rfl
set_option maxRecDepth 100000 in
theorem tw_cw92 : Jvm.Cond.code (tw_nm 92) (tw_cc 92) (tt_mi 92).1 (tw_rt 92) ∈ tw_Ts := tw_in2 (h := (4, 225)) rfl rfl
set_option maxRecDepth 100000 in
theorem tw_cw93 : Jvm.Cond.code (tw_nm 93) (tw_cc 93) (tt_mi 93).1 (tw_rt 93) ∈ tw_Ts := tw_in2 (h := (5, 181)) rfl rfl
set_option maxRecDepth 100000 in
theorem tw_cw94 : Jvm.Cond.code (tw_nm 94) (tw_cc 94) (tt_mi 94).1 (tw_rt 94) ∈ tw_Ts := tw_in2 (h := (5, 51)) rfl rfl
set_option maxRecDepth 100000 in
theorem tw_cw95 : Jvm.Cond.code (tw_nm 95) (tw_cc 95) (tt_mi 95).1 (tw_rt 95) ∈ tw_Ts := tw_in2 (h := (5, 121)) rfl rfl
set_option maxRecDepth 100000 in
theorem tw_cw96 : Jvm.Cond.code (tw_nm 96) (tw_cc 96) (tt_mi 96).1 (tw_rt 96) ∈ tw_Ts := tw_in2 (h := (4, 134)) rfl rfl
set_option maxRecDepth 100000 in
theorem tw_cw97 : Jvm.Cond.code (tw_nm 97) (tw_cc 97) (tt_mi 97).1 (tw_rt 97) ∈ tw_Ts := tw_in2 (h := (4, 217)) rfl rfl
set_option maxRecDepth 100000 in
theorem tw_cw98 : Jvm.Cond.code (tw_nm 98) (tw_cc 98) (tt_mi 98).1 (tw_rt 98) ∈ tw_Ts := tw_in2 (h := (4, 96)) rfl rfl
set_option maxRecDepth 100000 in
theorem tw_cw99 : Jvm.Cond.code (tw_nm 99) (tw_cc 99) (tt_mi 99).1 (tw_rt 99) ∈ tw_Ts := tw_in2 (h := (4, 86)) rfl rfl
set_option maxRecDepth 100000 in
theorem tw_cw100 : Jvm.Cond.code (tw_nm 100) (tw_cc 100) (tt_mi 100).1 (tw_rt 100) ∈ tw_Ts := tw_in2 (h := (4, 115)) rfl rfl
set_option maxRecDepth 100000 in
theorem tw_cw101 : Jvm.Cond.code (tw_nm 101) (tw_cc 101) (tt_mi 101).1 (tw_rt 101) ∈ tw_Ts := tw_in2 (h := (4, 72)) rfl rfl
set_option maxRecDepth 100000 in
theorem tw_cw102 : Jvm.Cond.code (tw_nm 102) (tw_cc 102) (tt_mi 102).1 (tw_rt 102) ∈ tw_Ts := tw_in2 (h := (4, 143)) rfl rfl
set_option maxRecDepth 100000 in
theorem tw_cw103 : Jvm.Cond.code (tw_nm 103) (tw_cc 103) (tt_mi 103).1 (tw_rt 103) ∈ tw_Ts := tw_in2 (h := (3, 51)) rfl rfl
set_option maxRecDepth 100000 in
theorem tw_cw104 : Jvm.Cond.code (tw_nm 104) (tw_cc 104) (tt_mi 104).1 (tw_rt 104) ∈ tw_Ts := tw_in2 (h := (4, 63)) rfl rfl
set_option maxRecDepth 100000 in
theorem tw_cw105 : Jvm.Cond.code (tw_nm 105) (tw_cc 105) (tt_mi 105).1 (tw_rt 105) ∈ tw_Ts := tw_in2 (h := (4, 68)) rfl rfl
set_option maxRecDepth 100000 in
theorem tw_cw106 : Jvm.Cond.code (tw_nm 106) (tw_cc 106) (tt_mi 106).1 (tw_rt 106) ∈ tw_Ts := tw_in2 (h := (4, 139)) rfl rfl
set_option maxRecDepth 100000 in
theorem tw_cw107 : Jvm.Cond.code (tw_nm 107) (tw_cc 107) (tt_mi 107).1 (tw_rt 107) ∈ tw_Ts := tw_in2 (h := (5, 71)) rfl rfl
set_option maxRecDepth 100000 in
theorem tw_cw108 : Jvm.Cond.code (tw_nm 108) (tw_cc 108) (tt_mi 108).1 (tw_rt 108) ∈ tw_Ts := tw_in2 (h := (5, 63)) rfl rfl
set_option maxRecDepth 100000 in
theorem tw_cw109 : Jvm.Cond.code (tw_nm 109) (tw_cc 109) (tt_mi 109).1 (tw_rt 109) ∈ tw_Ts := tw_in2 (h := (6, 12)) rfl rfl
set_option maxRecDepth 100000 in
theorem tw_cw110 : Jvm.Cond.code (tw_nm 110) (tw_cc 110) (tt_mi 110).1 (tw_rt 110) ∈ tw_Ts := tw_in2 (h := (6, 25)) rfl rfl
set_option maxRecDepth 100000 in
theorem tw_cw111 : Jvm.Cond.code (tw_nm 111) (tw_cc 111) (tt_mi 111).1 (tw_rt 111) ∈ tw_Ts := tw_in2 (h := (6, 20)) rfl rfl
set_option maxRecDepth 100000 in
theorem tw_cw112 : Jvm.Cond.code (tw_nm 112) (tw_cc 112) (tt_mi 112).1 (tw_rt 112) ∈ tw_Ts := tw_in2 (h := (5, 75)) rfl rfl
set_option maxRecDepth 100000 in
theorem tw_cw113 : Jvm.Cond.code (tw_nm 113) (tw_cc 113) (tt_mi 113).1 (tw_rt 113) ∈ tw_Ts := tw_in2 (h := (5, 83)) rfl rfl
set_option maxRecDepth 100000 in
theorem tw_cw114 : Jvm.Cond.code (tw_nm 114) (tw_cc 114) (tt_mi 114).1 (tw_rt 114) ∈ tw_Ts := tw_in2 (h := (5, 5)) rfl rfl
set_option maxRecDepth 100000 in
theorem tw_cw115 : Jvm.Cond.code (tw_nm 115) (tw_cc 115) (tt_mi 115).1 (tw_rt 115) ∈ tw_Ts := tw_in2 (h := (4, 82)) rfl rfl
set_option maxRecDepth 100000 in
theorem tw_cw116 : Jvm.Cond.code (tw_nm 116) (tw_cc 116) (tt_mi 116).1 (tw_rt 116) ∈ tw_Ts := tw_in2 (h := (5, 200)) rfl rfl
set_option maxRecDepth 100000 in
theorem tw_cw117 : Jvm.Cond.code (tw_nm 117) (tw_cc 117) (tt_mi 117).1 (tw_rt 117) ∈ tw_Ts := tw_in2 (h := (5, 191)) rfl rfl
set_option maxRecDepth 100000 in
theorem tw_cw118 : Jvm.Cond.code (tw_nm 118) (tw_cc 118) (tt_mi 118).1 (tw_rt 118) ∈ tw_Ts := tw_in2 (h := (6, 45)) rfl rfl
set_option maxRecDepth 100000 in
theorem tw_cw119 : Jvm.Cond.code (tw_nm 119) (tw_cc 119) (tt_mi 119).1 (tw_rt 119) ∈ tw_Ts := tw_in2 (h := (6, 129)) rfl rfl
set_option maxRecDepth 100000 in
theorem tw_cw120 : Jvm.Cond.code (tw_nm 120) (tw_cc 120) (tt_mi 120).1 (tw_rt 120) ∈ tw_Ts := tw_in2 (h := (4, 75)) rfl rfl
theorem tw_cwc1 : ∀ y ∈ ([61, 62, 63, 64, 65, 66, 67, 68, 69, 70, 71, 72, 73, 74, 75, 76, 77, 78, 79, 80, 81, 82, 83, 84, 85, 86, 87, 88, 89, 90, 91, 92, 93, 94, 95, 96, 97, 98, 99, 100, 101, 102, 103, 104, 105, 106, 107, 108, 109, 110, 111, 112, 113, 114, 115, 116, 117, 118, 119, 120] : List Nat), Jvm.Cond.code (tw_nm y) (tw_cc y) (tt_mi y).1 (tw_rt y) ∈ tw_Ts := List.forall_mem_cons.mpr ⟨tw_cw61, List.forall_mem_cons.mpr ⟨tw_cw62, List.forall_mem_cons.mpr ⟨tw_cw63, List.forall_mem_cons.mpr ⟨tw_cw64, List.forall_mem_cons.mpr ⟨tw_cw65, List.forall_mem_cons.mpr ⟨tw_cw66, List.forall_mem_cons.mpr ⟨tw_cw67, List.forall_mem_cons.mpr ⟨tw_cw68, List.forall_mem_cons.mpr ⟨tw_cw69, List.forall_mem_cons.mpr ⟨tw_cw70, List.forall_mem_cons.mpr ⟨tw_cw71, List.forall_mem_cons.mpr ⟨tw_cw72, List.forall_mem_cons.mpr ⟨tw_cw73, List.forall_mem_cons.mpr ⟨tw_cw74, List.forall_mem_cons.mpr ⟨tw_cw75, List.forall_mem_cons.mpr ⟨tw_cw76, List.forall_mem_cons.mpr ⟨tw_cw77, List.forall_mem_cons.mpr ⟨tw_cw78, List.forall_mem_cons.mpr ⟨tw_cw79, List.forall_mem_cons.mpr ⟨tw_cw80, List.forall_mem_cons.mpr ⟨tw_cw81, List.forall_mem_cons.mpr ⟨tw_cw82, List.forall_mem_cons.mpr ⟨tw_cw83, List.forall_mem_cons.mpr ⟨tw_cw84, List.forall_mem_cons.mpr ⟨tw_cw85, List.forall_mem_cons.mpr ⟨tw_cw86, List.forall_mem_cons.mpr ⟨tw_cw87, List.forall_mem_cons.mpr ⟨tw_cw88, List.forall_mem_cons.mpr ⟨tw_cw89, List.forall_mem_cons.mpr ⟨tw_cw90, List.forall_mem_cons.mpr ⟨tw_cw91, List.forall_mem_cons.mpr ⟨tw_cw92, List.forall_mem_cons.mpr ⟨tw_cw93, List.forall_mem_cons.mpr ⟨tw_cw94, List.forall_mem_cons.mpr ⟨tw_cw95, List.forall_mem_cons.mpr ⟨tw_cw96, List.forall_mem_cons.mpr ⟨tw_cw97, List.forall_mem_cons.mpr ⟨tw_cw98, List.forall_mem_cons.mpr ⟨tw_cw99, List.forall_mem_cons.mpr ⟨tw_cw100, List.forall_mem_cons.mpr ⟨tw_cw101, List.forall_mem_cons.mpr ⟨tw_cw102, List.forall_mem_cons.mpr ⟨tw_cw103, List.forall_mem_cons.mpr ⟨tw_cw104, List.forall_mem_cons.mpr ⟨tw_cw105, List.forall_mem_cons.mpr ⟨tw_cw106, List.forall_mem_cons.mpr ⟨tw_cw107, List.forall_mem_cons.mpr ⟨tw_cw108, List.forall_mem_cons.mpr ⟨tw_cw109, List.forall_mem_cons.mpr ⟨tw_cw110, List.forall_mem_cons.mpr ⟨tw_cw111, List.forall_mem_cons.mpr ⟨tw_cw112, List.forall_mem_cons.mpr ⟨tw_cw113, List.forall_mem_cons.mpr ⟨tw_cw114, List.forall_mem_cons.mpr ⟨tw_cw115, List.forall_mem_cons.mpr ⟨tw_cw116, List.forall_mem_cons.mpr ⟨tw_cw117, List.forall_mem_cons.mpr ⟨tw_cw118, List.forall_mem_cons.mpr ⟨tw_cw119, List.forall_mem_cons.mpr ⟨tw_cw120, fun _ h => absurd h List.not_mem_nil⟩⟩⟩⟩⟩⟩⟩⟩⟩⟩⟩⟩⟩⟩⟩⟩⟩⟩⟩⟩⟩⟩⟩⟩⟩⟩⟩⟩⟩⟩⟩⟩⟩⟩⟩⟩⟩⟩⟩⟩⟩⟩⟩⟩⟩⟩⟩⟩⟩⟩⟩⟩⟩⟩⟩⟩⟩⟩⟩⟩
