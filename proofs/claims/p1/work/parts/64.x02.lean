set_option maxRecDepth 100000 in
theorem kt_cw61 : Jvm.Cond.code (kt_nm 61) (kt_cc 61) (kt_mi 61).1 (kt_rt 61) ∈ kt_Ts := kt_in2 (h := (4, 225)) rfl rfl
set_option maxRecDepth 100000 in
theorem kt_cw62 : Jvm.Cond.code (kt_nm 62) (kt_cc 62) (kt_mi 62).1 (kt_rt 62) ∈ kt_Ts := kt_in2 (h := (5, 181)) rfl rfl
set_option maxRecDepth 100000 in
theorem kt_cw63 : Jvm.Cond.code (kt_nm 63) (kt_cc 63) (kt_mi 63).1 (kt_rt 63) ∈ kt_Ts := kt_in2 (h := (5, 51)) rfl rfl
set_option maxRecDepth 100000 in
theorem kt_cw64 : Jvm.Cond.code (kt_nm 64) (kt_cc 64) (kt_mi 64).1 (kt_rt 64) ∈ kt_Ts := kt_in2 (h := (5, 121)) rfl rfl
set_option maxRecDepth 100000 in
theorem kt_cw65 : Jvm.Cond.code (kt_nm 65) (kt_cc 65) (kt_mi 65).1 (kt_rt 65) ∈ kt_Ts := kt_in2 (h := (4, 143)) rfl rfl
set_option maxRecDepth 100000 in
theorem kt_cw66 : Jvm.Cond.code (kt_nm 66) (kt_cc 66) (kt_mi 66).1 (kt_rt 66) ∈ kt_Ts := kt_in2 (h := (3, 51)) rfl rfl
set_option maxRecDepth 100000 in
theorem kt_cw67 : Jvm.Cond.code (kt_nm 67) (kt_cc 67) (kt_mi 67).1 (kt_rt 67) ∈ kt_Ts := kt_in2 (h := (4, 63)) rfl rfl
set_option maxRecDepth 100000 in
theorem kt_cw68 : Jvm.Cond.code (kt_nm 68) (kt_cc 68) (kt_mi 68).1 (kt_rt 68) ∈ kt_Ts := kt_in2 (h := (4, 139)) rfl rfl
set_option maxRecDepth 100000 in
theorem kt_cw69 : Jvm.Cond.code (kt_nm 69) (kt_cc 69) (kt_mi 69).1 (kt_rt 69) ∈ kt_Ts := kt_in2 (h := (5, 71)) rfl rfl
set_option maxRecDepth 100000 in
theorem kt_cw70 : Jvm.Cond.code (kt_nm 70) (kt_cc 70) (kt_mi 70).1 (kt_rt 70) ∈ kt_Ts := kt_in2 (h := (6, 12)) rfl rfl
set_option maxRecDepth 100000 in
theorem kt_cw71 : Jvm.Cond.code (kt_nm 71) (kt_cc 71) (kt_mi 71).1 (kt_rt 71) ∈ kt_Ts := kt_in2 (h := (6, 25)) rfl rfl
set_option maxRecDepth 100000 in
theorem kt_cw72 : Jvm.Cond.code (kt_nm 72) (kt_cc 72) (kt_mi 72).1 (kt_rt 72) ∈ kt_Ts := kt_in2 (h := (5, 75)) rfl rfl
set_option maxRecDepth 100000 in
theorem kt_cw73 : Jvm.Cond.code (kt_nm 73) (kt_cc 73) (kt_mi 73).1 (kt_rt 73) ∈ kt_Ts := kt_in2 (h := (5, 5)) rfl rfl
set_option maxRecDepth 100000 in
theorem kt_cw74 : Jvm.Cond.code (kt_nm 74) (kt_cc 74) (kt_mi 74).1 (kt_rt 74) ∈ kt_Ts := kt_in2 (h := (4, 82)) rfl rfl
set_option maxRecDepth 100000 in
theorem kt_cw75 : Jvm.Cond.code (kt_nm 75) (kt_cc 75) (kt_mi 75).1 (kt_rt 75) ∈ kt_Ts := kt_in2 (h := (5, 200)) rfl rfl
set_option maxRecDepth 100000 in
theorem kt_cw76 : Jvm.Cond.code (kt_nm 76) (kt_cc 76) (kt_mi 76).1 (kt_rt 76) ∈ kt_Ts := kt_in2 (h := (6, 45)) rfl rfl
set_option maxRecDepth 100000 in
theorem kt_cw77 : Jvm.Cond.code (kt_nm 77) (kt_cc 77) (kt_mi 77).1 (kt_rt 77) ∈ kt_Ts := kt_in2 (h := (6, 129)) rfl rfl
set_option maxRecDepth 100000 in
theorem kt_cw78 : Jvm.Cond.code (kt_nm 78) (kt_cc 78) (kt_mi 78).1 (kt_rt 78) ∈ kt_Ts := kt_in2 (h := (8, 214)) rfl rfl
set_option maxRecDepth 100000 in
theorem kt_cw79 : Jvm.Cond.code (kt_nm 79) (kt_cc 79) (kt_mi 79).1 (kt_rt 79) ∈ kt_Ts := kt_in2 (h := (9, 145)) rfl rfl
set_option maxRecDepth 100000 in
theorem kt_cw80 : Jvm.Cond.code (kt_nm 80) (kt_cc 80) (kt_mi 80).1 (kt_rt 80) ∈ kt_Ts := kt_in2 (h := (9, 203)) rfl rfl
set_option maxRecDepth 100000 in
theorem kt_cw81 : Jvm.Cond.code (kt_nm 81) (kt_cc 81) (kt_mi 81).1 (kt_rt 81) ∈ kt_Ts := kt_in2 (h := (8, 163)) rfl rfl
set_option maxRecDepth 100000 in
theorem kt_cw82 : Jvm.Cond.code (kt_nm 82) (kt_cc 82) (kt_mi 82).1 (kt_rt 82) ∈ kt_Ts := kt_in2 (h := (7, 162)) rfl rfl
set_option maxRecDepth 100000 in
theorem kt_cw83 : Jvm.Cond.code (kt_nm 83) (kt_cc 83) (kt_mi 83).1 (kt_rt 83) ∈ kt_Ts := kt_in2 (h := (8, 101)) rfl rfl
set_option maxRecDepth 100000 in
theorem kt_cw84 : Jvm.Cond.code (kt_nm 84) (kt_cc 84) (kt_mi 84).1 (kt_rt 84) ∈ kt_Ts := kt_in2 (h := (9, 59)) rfl rfl
set_option maxRecDepth 100000 in
theorem kt_cw85 : Jvm.Cond.code (kt_nm 85) (kt_cc 85) (kt_mi 85).1 (kt_rt 85) ∈ kt_Ts := kt_in2 (h := (9, 68)) rfl rfl
set_option maxRecDepth 100000 in
theorem kt_cw86 : Jvm.Cond.code (kt_nm 86) (kt_cc 86) (kt_mi 86).1 (kt_rt 86) ∈ kt_Ts := kt_in2 (h := (9, 105)) rfl rfl
set_option maxRecDepth 100000 in
theorem kt_cw87 : Jvm.Cond.code (kt_nm 87) (kt_cc 87) (kt_mi 87).1 (kt_rt 87) ∈ kt_Ts := kt_in2 (h := (9, 113)) rfl rfl
set_option maxRecDepth 100000 in
theorem kt_cw88 : Jvm.Cond.code (kt_nm 88) (kt_cc 88) (kt_mi 88).1 (kt_rt 88) ∈ kt_Ts := kt_in2 (h := (8, 202)) rfl rfl
set_option maxRecDepth 100000 in
theorem kt_cw89 : Jvm.Cond.code (kt_nm 89) (kt_cc 89) (kt_mi 89).1 (kt_rt 89) ∈ kt_Ts := kt_in2 (h := (9, 92)) rfl rfl
set_option maxRecDepth 100000 in
theorem kt_cw90 : Jvm.Cond.code (kt_nm 90) (kt_cc 90) (kt_mi 90).1 (kt_rt 90) ∈ kt_Ts := kt_in2 (h := (9, 199)) rfl rfl
theorem kt_cwc2 : ∀ y ∈ ([61, 62, 63, 64, 65, 66, 67, 68, 69, 70, 71, 72, 73, 74, 75, 76, 77, 78, 79, 80, 81, 82, 83, 84, 85, 86, 87, 88, 89, 90] : List Nat), Jvm.Cond.code (kt_nm y) (kt_cc y) (kt_mi y).1 (kt_rt y) ∈ kt_Ts := List.forall_mem_cons.mpr ⟨kt_cw61, List.forall_mem_cons.mpr ⟨kt_cw62, List.forall_mem_cons.mpr ⟨kt_cw63, List.forall_mem_cons.mpr ⟨kt_cw64, List.forall_mem_cons.mpr ⟨kt_cw65, List.forall_mem_cons.mpr ⟨kt_cw66, List.forall_mem_cons.mpr ⟨kt_cw67, List.forall_mem_cons.mpr ⟨kt_cw68, List.forall_mem_cons.mpr ⟨kt_cw69, List.forall_mem_cons.mpr ⟨kt_cw70, List.forall_mem_cons.mpr ⟨kt_cw71, List.forall_mem_cons.mpr ⟨kt_cw72, List.forall_mem_cons.mpr ⟨kt_cw73, List.forall_mem_cons.mpr ⟨kt_cw74, List.forall_mem_cons.mpr ⟨kt_cw75, List.forall_mem_cons.mpr ⟨kt_cw76, List.forall_mem_cons.mpr ⟨kt_cw77, List.forall_mem_cons.mpr ⟨kt_cw78, List.forall_mem_cons.mpr ⟨kt_cw79, List.forall_mem_cons.mpr ⟨kt_cw80, List.forall_mem_cons.mpr ⟨kt_cw81, List.forall_mem_cons.mpr ⟨kt_cw82, List.forall_mem_cons.mpr ⟨kt_cw83, List.forall_mem_cons.mpr ⟨kt_cw84, List.forall_mem_cons.mpr ⟨kt_cw85, List.forall_mem_cons.mpr ⟨kt_cw86, List.forall_mem_cons.mpr ⟨kt_cw87, List.forall_mem_cons.mpr ⟨kt_cw88, List.forall_mem_cons.mpr ⟨kt_cw89, List.forall_mem_cons.mpr ⟨kt_cw90, fun _ h => absurd h List.not_mem_nil⟩⟩⟩⟩⟩⟩⟩⟩⟩⟩⟩⟩⟩⟩⟩⟩⟩⟩⟩⟩⟩⟩⟩⟩⟩⟩⟩⟩⟩⟩
