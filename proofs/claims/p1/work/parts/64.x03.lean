set_option maxRecDepth 100000 in
theorem kt_cw91 : Jvm.Cond.code (kt_nm 91) (kt_cc 91) (kt_mi 91).1 (kt_rt 91) ∈ kt_Ts := kt_in2 (h := (8, 43)) rfl rfl
set_option maxRecDepth 100000 in
theorem kt_cw92 : Jvm.Cond.code (kt_nm 92) (kt_cc 92) (kt_mi 92).1 (kt_rt 92) ∈ kt_Ts := kt_in2 (h := (9, 191)) rfl rfl
set_option maxRecDepth 100000 in
theorem kt_cw93 : Jvm.Cond.code (kt_nm 93) (kt_cc 93) (kt_mi 93).1 (kt_rt 93) ∈ kt_Ts := kt_in2 (h := (8, 151)) rfl rfl
set_option maxRecDepth 100000 in
theorem kt_cw94 : Jvm.Cond.code (kt_nm 94) (kt_cc 94) (kt_mi 94).1 (kt_rt 94) ∈ kt_Ts := kt_in2 (h := (9, 182)) rfl rfl
set_option maxRecDepth 100000 in
theorem kt_cw95 : Jvm.Cond.code (kt_nm 95) (kt_cc 95) (kt_mi 95).1 (kt_rt 95) ∈ kt_Ts := kt_in2 (h := (7, 150)) rfl rfl
set_option maxRecDepth 100000 in
theorem kt_cw96 : Jvm.Cond.code (kt_nm 96) (kt_cc 96) (kt_mi 96).1 (kt_rt 96) ∈ kt_Ts := kt_in2 (h := (9, 117)) rfl rfl
set_option maxRecDepth 100000 in
theorem kt_cw97 : Jvm.Cond.code (kt_nm 97) (kt_cc 97) (kt_mi 97).1 (kt_rt 97) ∈ kt_Ts := kt_in2 (h := (7, 154)) rfl rfl
set_option maxRecDepth 100000 in
theorem kt_cw98 : Jvm.Cond.code (kt_nm 98) (kt_cc 98) (kt_mi 98).1 (kt_rt 98) ∈ kt_Ts := kt_in2 (h := (7, 142)) rfl rfl
set_option maxRecDepth 100000 in
theorem kt_cw99 : Jvm.Cond.code (kt_nm 99) (kt_cc 99) (kt_mi 99).1 (kt_rt 99) ∈ kt_Ts := kt_in2 (h := (8, 198)) rfl rfl
set_option maxRecDepth 100000 in
theorem kt_cw100 : Jvm.Cond.code (kt_nm 100) (kt_cc 100) (kt_mi 100).1 (kt_rt 100) ∈ kt_Ts := kt_in2 (h := (8, 190)) rfl rfl
set_option maxRecDepth 100000 in
theorem kt_cw101 : Jvm.Cond.code (kt_nm 101) (kt_cc 101) (kt_mi 101).1 (kt_rt 101) ∈ kt_Ts := kt_in2 (h := (8, 194)) rfl rfl
set_option maxRecDepth 100000 in
theorem kt_cw102 : Jvm.Cond.code (kt_nm 102) (kt_cc 102) (kt_mi 102).1 (kt_rt 102) ∈ kt_Ts := kt_in2 (h := (8, 47)) rfl rfl
set_option maxRecDepth 100000 in
theorem kt_cw103 : Jvm.Cond.code (kt_nm 103) (kt_cc 103) (kt_mi 103).1 (kt_rt 103) ∈ kt_Ts := kt_in2 (h := (8, 59)) rfl rfl
set_option maxRecDepth 100000 in
theorem kt_cw104 : Jvm.Cond.code (kt_nm 104) (kt_cc 104) (kt_mi 104).1 (kt_rt 104) ∈ kt_Ts := kt_in2 (h := (7, 146)) rfl rfl
set_option maxRecDepth 100000 in
theorem kt_cw105 : Jvm.Cond.code (kt_nm 105) (kt_cc 105) (kt_mi 105).1 (kt_rt 105) ∈ kt_Ts := kt_in2 (h := (9, 154)) rfl rfl
set_option maxRecDepth 100000 in
theorem kt_cw106 : Jvm.Cond.code (kt_nm 106) (kt_cc 106) (kt_mi 106).1 (kt_rt 106) ∈ kt_Ts := kt_in2 (h := (8, 97)) rfl rfl
set_option maxRecDepth 100000 in
theorem kt_cw107 : Jvm.Cond.code (kt_nm 107) (kt_cc 107) (kt_mi 107).1 (kt_rt 107) ∈ kt_Ts := kt_in2 (h := (9, 166)) rfl rfl
set_option maxRecDepth 100000 in
theorem kt_cw108 : Jvm.Cond.code (kt_nm 108) (kt_cc 108) (kt_mi 108).1 (kt_rt 108) ∈ kt_Ts := kt_in2 (h := (7, 127)) rfl rfl
set_option maxRecDepth 100000 in
theorem kt_cw109 : Jvm.Cond.code (kt_nm 109) (kt_cc 109) (kt_mi 109).1 (kt_rt 109) ∈ kt_Ts := kt_in2 (h := (6, 142)) rfl rfl
set_option maxRecDepth 100000 in
theorem kt_cw110 : Jvm.Cond.code (kt_nm 110) (kt_cc 110) (kt_mi 110).1 (kt_rt 110) ∈ kt_Ts := kt_in2 (h := (7, 170)) rfl rfl
set_option maxRecDepth 100000 in
theorem kt_cw111 : Jvm.Cond.code (kt_nm 111) (kt_cc 111) (kt_mi 111).1 (kt_rt 111) ∈ kt_Ts := kt_in2 (h := (8, 54)) rfl rfl
set_option maxRecDepth 100000 in
theorem kt_cw112 : Jvm.Cond.code (kt_nm 112) (kt_cc 112) (kt_mi 112).1 (kt_rt 112) ∈ kt_Ts := kt_in2 (h := (7, 179)) rfl rfl
set_option maxRecDepth 100000 in
theorem kt_cw113 : Jvm.Cond.code (kt_nm 113) (kt_cc 113) (kt_mi 113).1 (kt_rt 113) ∈ kt_Ts := kt_in2 (h := (8, 51)) rfl rfl
set_option maxRecDepth 100000 in
theorem kt_cw114 : Jvm.Cond.code (kt_nm 114) (kt_cc 114) (kt_mi 114).1 (kt_rt 114) ∈ kt_Ts := kt_in2 (h := (8, 39)) rfl rfl
set_option maxRecDepth 100000 in
theorem kt_cw115 : Jvm.Cond.code (kt_nm 115) (kt_cc 115) (kt_mi 115).1 (kt_rt 115) ∈ kt_Ts := kt_in2 (h := (9, 30)) rfl rfl
set_option maxRecDepth 100000 in
theorem kt_cw116 : Jvm.Cond.code (kt_nm 116) (kt_cc 116) (kt_mi 116).1 (kt_rt 116) ∈ kt_Ts := kt_in2 (h := (7, 123)) rfl rfl
set_option maxRecDepth 100000 in
theorem kt_cw117 : Jvm.Cond.code (kt_nm 117) (kt_cc 117) (kt_mi 117).1 (kt_rt 117) ∈ kt_Ts := kt_in2 (h := (8, 122)) rfl rfl
set_option maxRecDepth 100000 in
theorem kt_cw118 : Jvm.Cond.code (kt_nm 118) (kt_cc 118) (kt_mi 118).1 (kt_rt 118) ∈ kt_Ts := kt_in2 (h := (9, 195)) rfl rfl
set_option maxRecDepth 100000 in
theorem kt_cw119 : Jvm.Cond.code (kt_nm 119) (kt_cc 119) (kt_mi 119).1 (kt_rt 119) ∈ kt_Ts := kt_in2 (h := (8, 234)) rfl rfl
set_option maxRecDepth 100000 in
theorem kt_cw120 : Jvm.Cond.code (kt_nm 120) (kt_cc 120) (kt_mi 120).1 (kt_rt 120) ∈ kt_Ts := kt_in2 (h := (9, 186)) rfl rfl
theorem kt_cwc3 : ∀ y ∈ ([91, 92, 93, 94, 95, 96, 97, 98, 99, 100, 101, 102, 103, 104, 105, 106, 107, 108, 109, 110, 111, 112, 113, 114, 115, 116, 117, 118, 119, 120] : List Nat), Jvm.Cond.code (kt_nm y) (kt_cc y) (kt_mi y).1 (kt_rt y) ∈ kt_Ts := List.forall_mem_cons.mpr ⟨kt_cw91, List.forall_mem_cons.mpr ⟨kt_cw92, List.forall_mem_cons.mpr ⟨kt_cw93, List.forall_mem_cons.mpr ⟨kt_cw94, List.forall_mem_cons.mpr ⟨kt_cw95, List.forall_mem_cons.mpr ⟨kt_cw96, List.forall_mem_cons.mpr ⟨kt_cw97, List.forall_mem_cons.mpr ⟨kt_cw98, List.forall_mem_cons.mpr ⟨kt_cw99, List.forall_mem_cons.mpr ⟨kt_cw100, List.forall_mem_cons.mpr ⟨kt_cw101, List.forall_mem_cons.mpr ⟨kt_cw102, List.forall_mem_cons.mpr ⟨kt_cw103, List.forall_mem_cons.mpr ⟨kt_cw104, List.forall_mem_cons.mpr ⟨kt_cw105, List.forall_mem_cons.mpr ⟨kt_cw106, List.forall_mem_cons.mpr ⟨kt_cw107, List.forall_mem_cons.mpr ⟨kt_cw108, List.forall_mem_cons.mpr ⟨kt_cw109, List.forall_mem_cons.mpr ⟨kt_cw110, List.forall_mem_cons.mpr ⟨kt_cw111, List.forall_mem_cons.mpr ⟨kt_cw112, List.forall_mem_cons.mpr ⟨kt_cw113, List.forall_mem_cons.mpr ⟨kt_cw114, List.forall_mem_cons.mpr ⟨kt_cw115, List.forall_mem_cons.mpr ⟨kt_cw116, List.forall_mem_cons.mpr ⟨kt_cw117, List.forall_mem_cons.mpr ⟨kt_cw118, List.forall_mem_cons.mpr ⟨kt_cw119, List.forall_mem_cons.mpr ⟨kt_cw120, fun _ h => absurd h List.not_mem_nil⟩⟩⟩⟩⟩⟩⟩⟩⟩⟩⟩⟩⟩⟩⟩⟩⟩⟩⟩⟩⟩⟩⟩⟩⟩⟩⟩⟩⟩⟩
