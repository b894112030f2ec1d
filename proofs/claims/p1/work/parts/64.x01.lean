set_option maxRecDepth 100000 in
theorem kt_cw31 : Jvm.Cond.code (kt_nm 31) (kt_cc 31) (kt_mi 31).1 (kt_rt 31) ∈ kt_Ts := kt_in2 (h := (6, 16)) rfl rfl
set_option maxRecDepth 100000 in
theorem kt_cw32 : Jvm.Cond.code (kt_nm 32) (kt_cc 32) (kt_mi 32).1 (kt_rt 32) ∈ kt_Ts := kt_in2 (h := (6, 70)) rfl rfl
set_option maxRecDepth 100000 in
theorem kt_cw33 : Jvm.Cond.code (kt_nm 33) (kt_cc 33) (kt_mi 33).1 (kt_rt 33) ∈ kt_Ts := kt_in2 (h := (1, 26)) rfl rfl
set_option maxRecDepth 100000 in
theorem kt_cw34 : Jvm.Cond.code (kt_nm 34) (kt_cc 34) (kt_mi 34).1 (kt_rt 34) ∈ kt_Ts := kt_in2 (h := (4, 56)) rfl rfl
set_option maxRecDepth 100000 in
theorem kt_cw35 : Jvm.Cond.code (kt_nm 35) (kt_cc 35) (kt_mi 35).1 (kt_rt 35) ∈ kt_Ts := kt_in2 (h := (4, 53)) rfl rfl
set_option maxRecDepth 100000 in
theorem kt_cw36 : Jvm.Cond.code (kt_nm 36) (kt_cc 36) (kt_mi 36).1 (kt_rt 36) ∈ kt_Ts := kt_in2 (h := (6, 114)) rfl rfl
set_option maxRecDepth 100000 in
theorem kt_cw37 : Jvm.Cond.code (kt_nm 37) (kt_cc 37) (kt_mi 37).1 (kt_rt 37) ∈ kt_Ts := kt_in2 (h := (5, 79)) rfl rfl
set_option maxRecDepth 100000 in
theorem kt_cw38 : Jvm.Cond.code (kt_nm 38) (kt_cc 38) (kt_mi 38).1 (kt_rt 38) ∈ kt_Ts := kt_in2 (h := (4, 59)) rfl rfl
set_option maxRecDepth 100000 in
theorem kt_cw39 : Jvm.Cond.code (kt_nm 39) (kt_cc 39) (kt_mi 39).1 (kt_rt 39) ∈ kt_Ts := kt_in2 (h := (6, 111)) rfl rfl
set_option maxRecDepth 100000 in
theorem kt_cw40 : Jvm.Cond.code (kt_nm 40) (kt_cc 40) (kt_mi 40).1 (kt_rt 40) ∈ kt_Ts := kt_in2 (h := (6, 82)) rfl rfl
set_option maxRecDepth 100000 in
theorem kt_cw41 : Jvm.Cond.code (kt_nm 41) (kt_cc 41) (kt_mi 41).1 (kt_rt 41) ∈ kt_Ts := kt_in2 (h := (5, 9)) rfl rfl
set_option maxRecDepth 100000 in
theorem kt_cw42 : Jvm.Cond.code (kt_nm 42) (kt_cc 42) (kt_mi 42).1 (kt_rt 42) ∈ kt_Ts := kt_in2 (h := (6, 7)) rfl rfl
set_option maxRecDepth 100000 in
theorem kt_cw43 : Jvm.Cond.code (kt_nm 43) (kt_cc 43) (kt_mi 43).1 (kt_rt 43) ∈ kt_Ts := kt_in2 (h := (3, 228)) rfl rfl
set_option maxRecDepth 100000 in
theorem kt_cw44 : Jvm.Cond.code (kt_nm 44) (kt_cc 44) (kt_mi 44).1 (kt_rt 44) ∈ kt_Ts := kt_in2 (h := (4, 199)) rfl rfl
set_option maxRecDepth 100000 in
theorem kt_cw45 : Jvm.Cond.code (kt_nm 45) (kt_cc 45) (kt_mi 45).1 (kt_rt 45) ∈ kt_Ts := kt_in2 (h := (6, 54)) rfl rfl
set_option maxRecDepth 100000 in
theorem kt_cw46 : Jvm.Cond.code (kt_nm 46) (kt_cc 46) (kt_mi 46).1 (kt_rt 46) ∈ kt_Ts := kt_in2 (h := (5, 226)) rfl rfl
set_option maxRecDepth 100000 in
theorem kt_cw47 : Jvm.Cond.code (kt_nm 47) (kt_cc 47) (kt_mi 47).1 (kt_rt 47) ∈ kt_Ts := kt_in2 (h := (6, 66)) rfl rfl
set_option maxRecDepth 100000 in
theorem kt_cw48 : Jvm.Cond.code (kt_nm 48) (kt_cc 48) (kt_mi 48).1 (kt_rt 48) ∈ kt_Ts := kt_in2 (h := (5, 59)) rfl rfl
set_option maxRecDepth 100000 in
theorem kt_cw49 : Jvm.Cond.code (kt_nm 49) (kt_cc 49) (kt_mi 49).1 (kt_rt 49) ∈ kt_Ts := kt_in2 (h := (5, 204)) rfl rfl
set_option maxRecDepth 100000 in
theorem kt_cw50 : Jvm.Cond.code (kt_nm 50) (kt_cc 50) (kt_mi 50).1 (kt_rt 50) ∈ kt_Ts := kt_in2 (h := (6, 37)) rfl rfl
set_option maxRecDepth 100000 in
theorem kt_cw51 : Jvm.Cond.code (kt_nm 51) (kt_cc 51) (kt_mi 51).1 (kt_rt 51) ∈ kt_Ts := kt_in2 (h := (5, 172)) rfl rfl
set_option maxRecDepth 100000 in
theorem kt_cw52 : Jvm.Cond.code (kt_nm 52) (kt_cc 52) (kt_mi 52).1 (kt_rt 52) ∈ kt_Ts := kt_in2 (h := (6, 137)) rfl rfl
set_option maxRecDepth 100000 in
theorem kt_cw53 : Jvm.Cond.code (kt_nm 53) (kt_cc 53) (kt_mi 53).1 (kt_rt 53) ∈ kt_Ts := kt_in2 (h := (3, 43)) rfl rfl
set_option maxRecDepth 100000 in
theorem kt_cw54 : Jvm.Cond.code (kt_nm 54) (kt_cc 54) (kt_mi 54).1 (kt_rt 54) ∈ kt_Ts := kt_in2 (h := (4, 131)) rfl rfl
set_option maxRecDepth 100000 in
theorem kt_cw55 : Jvm.Cond.code (kt_nm 55) (kt_cc 55) (kt_mi 55).1 (kt_rt 55) ∈ kt_Ts := kt_in2 (h := (4, 111)) rfl rfl
set_option maxRecDepth 100000 in
theorem kt_cw56 : Jvm.Cond.code (kt_nm 56) (kt_cc 56) (kt_mi 56).1 (kt_rt 56) ∈ kt_Ts := kt_in2 (h := (4, 147)) rfl rfl
set_option maxRecDepth 100000 in
theorem kt_cw57 : Jvm.Cond.code (kt_nm 57) (kt_cc 57) (kt_mi 57).1 (kt_rt 57) ∈ kt_Ts := kt_in2 (h := (5, 217)) rfl rfl
set_option maxRecDepth 100000 in
theorem kt_cw58 : Jvm.Cond.code (kt_nm 58) (kt_cc 58) (kt_mi 58).1 (kt_rt 58) ∈ kt_Ts := kt_in2 (h := (5, 133)) rfl rfl
set_option maxRecDepth 100000 in
theorem kt_cw59 : Jvm.Cond.code (kt_nm 59) (kt_cc 59) (kt_mi 59).1 (kt_rt 59) ∈ kt_Ts := kt_in2 (h := (6, 118)) rfl rfl
set_option maxRecDepth 100000 in
theorem kt_cw60 : Jvm.Cond.code (kt_nm 60) (kt_cc 60) (kt_mi 60).1 (kt_rt 60) ∈ kt_Ts := kt_in2 (h := (6, 78)) rfl rfl
theorem kt_cwc1 : ∀ y ∈ ([31, 32, 33, 34, 35, 36, 37, 38, 39, 40, 41, 42, 43, 44, 45, 46, 47, 48, 49, 50, 51, 52, 53, 54, 55, 56, 57, 58, 59, 60] : List Nat), Jvm.Cond.code (kt_nm y) (kt_cc y) (kt_mi y).1 (kt_rt y) ∈ kt_Ts := List.forall_mem_cons.mpr ⟨kt_cw31, List.forall_mem_cons.mpr ⟨kt_cw32, List.forall_mem_cons.mpr ⟨kt_cw33, List.forall_mem_cons.mpr ⟨kt_cw34, List.forall_mem_cons.mpr ⟨kt_cw35, List.forall_mem_cons.mpr ⟨kt_cw36, List.forall_mem_cons.mpr ⟨kt_cw37, List.forall_mem_cons.mpr ⟨kt_cw38, List.forall_mem_cons.mpr ⟨kt_cw39, List.forall_mem_cons.mpr ⟨kt_cw40, List.forall_mem_cons.mpr ⟨kt_cw41, List.forall_mem_cons.mpr ⟨kt_cw42, List.forall_mem_cons.mpr ⟨kt_cw43, List.forall_mem_cons.mpr ⟨kt_cw44, List.forall_mem_cons.mpr ⟨kt_cw45, List.forall_mem_cons.mpr ⟨kt_cw46, List.forall_mem_cons.mpr ⟨kt_cw47, List.forall_mem_cons.mpr ⟨kt_cw48, List.forall_mem_cons.mpr ⟨kt_cw49, List.forall_mem_cons.mpr ⟨kt_cw50, List.forall_mem_cons.mpr ⟨kt_cw51, List.forall_mem_cons.mpr ⟨kt_cw52, List.forall_mem_cons.mpr ⟨kt_cw53, List.forall_mem_cons.mpr ⟨kt_cw54, List.forall_mem_cons.mpr ⟨kt_cw55, List.forall_mem_cons.mpr ⟨kt_cw56, List.forall_mem_cons.mpr ⟨kt_cw57, List.forall_mem_cons.mpr ⟨kt_cw58, List.forall_mem_cons.mpr ⟨kt_cw59, List.forall_mem_cons.mpr ⟨kt_cw60, fun _ h => absurd h List.not_mem_nil⟩⟩⟩⟩⟩⟩⟩⟩⟩⟩⟩⟩⟩⟩⟩⟩⟩⟩⟩⟩⟩⟩⟩⟩⟩⟩⟩⟩⟩⟩
