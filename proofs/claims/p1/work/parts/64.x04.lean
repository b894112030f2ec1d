set_option maxRecDepth 100000 in
theorem kt_cw121 : Jvm.Cond.code (kt_nm 121) (kt_cc 121) (kt_mi 121).1 (kt_rt 121) ∈ kt_Ts := kt_in2 (h := (8, 182)) rfl rfl
set_option maxRecDepth 100000 in
theorem kt_cw122 : Jvm.Cond.code (kt_nm 122) (kt_cc 122) (kt_mi 122).1 (kt_rt 122) ∈ kt_Ts := kt_in2 (h := (9, 136)) rfl rfl
set_option maxRecDepth 100000 in
theorem kt_cw123 : Jvm.Cond.code (kt_nm 123) (kt_cc 123) (kt_mi 123).1 (kt_rt 123) ∈ kt_Ts := kt_in2 (h := (9, 178)) rfl rfl
set_option maxRecDepth 100000 in
theorem kt_cw124 : Jvm.Cond.code (kt_nm 124) (kt_cc 124) (kt_mi 124).1 (kt_rt 124) ∈ kt_Ts := kt_in2 (h := (9, 162)) rfl rfl
set_option maxRecDepth 100000 in
theorem kt_cw125 : Jvm.Cond.code (kt_nm 125) (kt_cc 125) (kt_mi 125).1 (kt_rt 125) ∈ kt_Ts := kt_in2 (h := (7, 166)) rfl rfl
set_option maxRecDepth 100000 in
theorem kt_cw126 : Jvm.Cond.code (kt_nm 126) (kt_cc 126) (kt_mi 126).1 (kt_rt 126) ∈ kt_Ts := kt_in2 (h := (8, 230)) rfl rfl
set_option maxRecDepth 100000 in
theorem kt_cw127 : Jvm.Cond.code (kt_nm 127) (kt_cc 127) (kt_mi 127).1 (kt_rt 127) ∈ kt_Ts := kt_in2 (h := (9, 97)) rfl rfl
set_option maxRecDepth 100000 in
theorem kt_cw128 : Jvm.Cond.code (kt_nm 128) (kt_cc 128) (kt_mi 128).1 (kt_rt 128) ∈ kt_Ts := kt_in2 (h := (9, 121)) rfl rfl
set_option maxRecDepth 100000 in
theorem kt_cw129 : Jvm.Cond.code (kt_nm 129) (kt_cc 129) (kt_mi 129).1 (kt_rt 129) ∈ kt_Ts := kt_in2 (h := (9, 80)) rfl rfl
set_option maxRecDepth 100000 in
theorem kt_cw130 : Jvm.Cond.code (kt_nm 130) (kt_cc 130) (kt_mi 130).1 (kt_rt 130) ∈ kt_Ts := kt_in2 (h := (7, 138)) rfl rfl
set_option maxRecDepth 100000 in
theorem kt_cw131 : Jvm.Cond.code (kt_nm 131) (kt_cc 131) (kt_mi 131).1 (kt_rt 131) ∈ kt_Ts := kt_in2 (h := (9, 2)) rfl rfl
set_option maxRecDepth 100000 in
theorem kt_cw132 : Jvm.Cond.code (kt_nm 132) (kt_cc 132) (kt_mi 132).1 (kt_rt 132) ∈ kt_Ts := kt_in2 (h := (8, 135)) rfl rfl
set_option maxRecDepth 100000 in
theorem kt_cw133 : Jvm.Cond.code (kt_nm 133) (kt_cc 133) (kt_mi 133).1 (kt_rt 133) ∈ kt_Ts := kt_in2 (h := (8, 126)) rfl rfl
set_option maxRecDepth 100000 in
theorem kt_cw134 : Jvm.Cond.code (kt_nm 134) (kt_cc 134) (kt_mi 134).1 (kt_rt 134) ∈ kt_Ts := kt_in2 (h := (8, 147)) rfl rfl
set_option maxRecDepth 100000 in
theorem kt_cw135 : Jvm.Cond.code (kt_nm 135) (kt_cc 135) (kt_mi 135).1 (kt_rt 135) ∈ kt_Ts := kt_in2 (h := (9, 170)) rfl rfl
set_option maxRecDepth 100000 in
theorem kt_cw136 : Jvm.Cond.code (kt_nm 136) (kt_cc 136) (kt_mi 136).1 (kt_rt 136) ∈ kt_Ts := kt_in2 (h := (9, 54)) rfl rfl
set_option maxRecDepth 100000 in
theorem kt_cw137 : Jvm.Cond.code (kt_nm 137) (kt_cc 137) (kt_mi 137).1 (kt_rt 137) ∈ kt_Ts := kt_in2 (h := (7, 120)) rfl rfl
set_option maxRecDepth 100000 in
theorem kt_cw138 : Jvm.Cond.code (kt_nm 138) (kt_cc 138) (kt_mi 138).1 (kt_rt 138) ∈ kt_Ts := kt_in2 (h := (8, 206)) rfl rfl
set_option maxRecDepth 100000 in
theorem kt_cw139 : Jvm.Cond.code (kt_nm 139) (kt_cc 139) (kt_mi 139).1 (kt_rt 139) ∈ kt_Ts := kt_in2 (h := (9, 149)) rfl rfl
set_option maxRecDepth 100000 in
theorem kt_cw140 : Jvm.Cond.code (kt_nm 140) (kt_cc 140) (kt_mi 140).1 (kt_rt 140) ∈ kt_Ts := kt_in2 (h := (9, 22)) rfl rfl
set_option maxRecDepth 100000 in
theorem kt_cw141 : Jvm.Cond.code (kt_nm 141) (kt_cc 141) (kt_mi 141).1 (kt_rt 141) ∈ kt_Ts := kt_in2 (h := (9, 42)) rfl rfl
set_option maxRecDepth 100000 in
theorem kt_cw142 : Jvm.Cond.code (kt_nm 142) (kt_cc 142) (kt_mi 142).1 (kt_rt 142) ∈ kt_Ts := kt_in2 (h := (8, 238)) rfl rfl
set_option maxRecDepth 100000 in
theorem kt_cw143 : Jvm.Cond.code (kt_nm 143) (kt_cc 143) (kt_mi 143).1 (kt_rt 143) ∈ kt_Ts := kt_in2 (h := (8, 143)) rfl rfl
set_option maxRecDepth 100000 in
theorem kt_cw144 : Jvm.Cond.code (kt_nm 144) (kt_cc 144) (kt_mi 144).1 (kt_rt 144) ∈ kt_Ts := kt_in2 (h := (7, 158)) rfl rfl
set_option maxRecDepth 100000 in
theorem kt_cw145 : Jvm.Cond.code (kt_nm 145) (kt_cc 145) (kt_mi 145).1 (kt_rt 145) ∈ kt_Ts := kt_in2 (h := (8, 80)) rfl rfl
set_option maxRecDepth 100000 in
theorem kt_cw146 : Jvm.Cond.code (kt_nm 146) (kt_cc 146) (kt_mi 146).1 (kt_rt 146) ∈ kt_Ts := kt_in2 (h := (8, 105)) rfl rfl
set_option maxRecDepth 100000 in
theorem kt_cw147 : Jvm.Cond.code (kt_nm 147) (kt_cc 147) (kt_mi 147).1 (kt_rt 147) ∈ kt_Ts := kt_in2 (h := (8, 139)) rfl rfl
set_option maxRecDepth 100000 in
theorem kt_cw148 : Jvm.Cond.code (kt_nm 148) (kt_cc 148) (kt_mi 148).1 (kt_rt 148) ∈ kt_Ts := kt_in2 (h := (8, 222)) rfl rfl
set_option maxRecDepth 100000 in
theorem kt_cw149 : Jvm.Cond.code (kt_nm 149) (kt_cc 149) (kt_mi 149).1 (kt_rt 149) ∈ kt_Ts := kt_in2 (h := (8, 226)) rfl rfl
set_option maxRecDepth 100000 in
theorem kt_cw150 : Jvm.Cond.code (kt_nm 150) (kt_cc 150) (kt_mi 150).1 (kt_rt 150) ∈ kt_Ts := kt_in2 (h := (9, 158)) rfl rfl
theorem kt_cwc4 : ∀ y ∈ ([121, 122, 123, 124, 125, 126, 127, 128, 129, 130, 131, 132, 133, 134, 135, 136, 137, 138, 139, 140, 141, 142, 143, 144, 145, 146, 147, 148, 149, 150] : List Nat), Jvm.Cond.code (kt_nm y) (kt_cc y) (kt_mi y).1 (kt_rt y) ∈ kt_Ts := List.forall_mem_cons.mpr ⟨kt_cw121, List.forall_mem_cons.mpr ⟨kt_cw122, List.forall_mem_cons.mpr ⟨kt_cw123, List.forall_mem_cons.mpr ⟨kt_cw124, List.forall_mem_cons.mpr ⟨kt_cw125, List.forall_mem_cons.mpr ⟨kt_cw126, List.forall_mem_cons.mpr ⟨kt_cw127, List.forall_mem_cons.mpr ⟨kt_cw128, List.forall_mem_cons.mpr ⟨kt_cw129, List.forall_mem_cons.mpr ⟨kt_cw130, List.forall_mem_cons.mpr ⟨kt_cw131, List.forall_mem_cons.mpr ⟨kt_cw132, List.forall_mem_cons.mpr ⟨kt_cw133, List.forall_mem_cons.mpr ⟨kt_cw134, List.forall_mem_cons.mpr ⟨kt_cw135, List.forall_mem_cons.mpr ⟨kt_cw136, List.forall_mem_cons.mpr ⟨kt_cw137, List.forall_mem_cons.mpr ⟨kt_cw138, List.forall_mem_cons.mpr ⟨kt_cw139, List.forall_mem_cons.mpr ⟨kt_cw140, List.forall_mem_cons.mpr ⟨kt_cw141, List.forall_mem_cons.mpr ⟨kt_cw142, List.forall_mem_cons.mpr ⟨kt_cw143, List.forall_mem_cons.mpr ⟨kt_cw144, List.forall_mem_cons.mpr ⟨kt_cw145, List.forall_mem_cons.mpr ⟨kt_cw146, List.forall_mem_cons.mpr ⟨kt_cw147, List.forall_mem_cons.mpr ⟨kt_cw148, List.forall_mem_cons.mpr ⟨kt_cw149, List.forall_mem_cons.mpr ⟨kt_cw150, fun _ h => absurd h List.not_mem_nil⟩⟩⟩⟩⟩⟩⟩⟩⟩⟩⟩⟩⟩⟩⟩⟩⟩⟩⟩⟩⟩⟩⟩⟩⟩⟩⟩⟩⟩⟩
