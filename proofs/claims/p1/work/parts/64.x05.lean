set_option maxRecDepth 100000 in
theorem kt_cw151 : Jvm.Cond.code (kt_nm 151) (kt_cc 151) (kt_mi 151).1 (kt_rt 151) ∈ kt_Ts := kt_in2 (h := (9, 26)) rfl rfl
set_option maxRecDepth 100000 in
theorem kt_cw152 : Jvm.Cond.code (kt_nm 152) (kt_cc 152) (kt_mi 152).1 (kt_rt 152) ∈ kt_Ts := kt_in2 (h := (8, 218)) rfl rfl
set_option maxRecDepth 100000 in
theorem kt_cw153 : Jvm.Cond.code (kt_nm 153) (kt_cc 153) (kt_mi 153).1 (kt_rt 153) ∈ kt_Ts := kt_in2 (h := (8, 89)) rfl rfl
set_option maxRecDepth 100000 in
theorem kt_cw154 : Jvm.Cond.code (kt_nm 154) (kt_cc 154) (kt_mi 154).1 (kt_rt 154) ∈ kt_Ts := kt_in2 (h := (9, 84)) rfl rfl
set_option maxRecDepth 100000 in
theorem kt_cw155 : Jvm.Cond.code (kt_nm 155) (kt_cc 155) (kt_mi 155).1 (kt_rt 155) ∈ kt_Ts := kt_in2 (h := (9, 129)) rfl rfl
set_option maxRecDepth 100000 in
theorem kt_cw156 : Jvm.Cond.code (kt_nm 156) (kt_cc 156) (kt_mi 156).1 (kt_rt 156) ∈ kt_Ts := kt_in2 (h := (7, 131)) rfl rfl
set_option maxRecDepth 100000 in
theorem kt_cw157 : Jvm.Cond.code (kt_nm 157) (kt_cc 157) (kt_mi 157).1 (kt_rt 157) ∈ kt_Ts := kt_in2 (h := (6, 90)) rfl rfl
set_option maxRecDepth 100000 in
theorem kt_cw158 : Jvm.Cond.code (kt_nm 158) (kt_cc 158) (kt_mi 158).1 (kt_rt 158) ∈ kt_Ts := kt_in2 (h := (1, 45)) rfl rfl
set_option maxRecDepth 100000 in
theorem kt_cw159 : Jvm.Cond.code (kt_nm 159) (kt_cc 159) (kt_mi 159).1 (kt_rt 159) ∈ kt_Ts := kt_in2 (h := (3, 66)) rfl rfl
set_option maxRecDepth 100000 in
theorem kt_cw160 : Jvm.Cond.code (kt_nm 160) (kt_cc 160) (kt_mi 160).1 (kt_rt 160) ∈ kt_Ts := kt_in2 (h := (1, 234)) rfl rfl
set_option maxRecDepth 100000 in
theorem kt_cw161 : Jvm.Cond.code (kt_nm 161) (kt_cc 161) (kt_mi 161).1 (kt_rt 161) ∈ kt_Ts := kt_in2 (h := (3, 55)) rfl rfl
set_option maxRecDepth 100000 in
theorem kt_cw162 : Jvm.Cond.code (kt_nm 162) (kt_cc 162) (kt_mi 162).1 (kt_rt 162) ∈ kt_Ts := kt_in2 (h := (6, 102)) rfl rfl
set_option maxRecDepth 100000 in
theorem kt_cw163 : Jvm.Cond.code (kt_nm 163) (kt_cc 163) (kt_mi 163).1 (kt_rt 163) ∈ kt_Ts := kt_in2 (h := (2, 36)) rfl rfl
set_option maxRecDepth 100000 in
theorem kt_cw164 : Jvm.Cond.code (kt_nm 164) (kt_cc 164) (kt_mi 164).1 (kt_rt 164) ∈ kt_Ts := kt_in2 (h := (2, 207)) rfl rfl
set_option maxRecDepth 100000 in
theorem kt_cw165 : Jvm.Cond.code (kt_nm 165) (kt_cc 165) (kt_mi 165).1 (kt_rt 165) ∈ kt_Ts := kt_in2 (h := (6, 122)) rfl rfl
set_option maxRecDepth 100000 in
theorem kt_cw166 : Jvm.Cond.code (kt_nm 166) (kt_cc 166) (kt_mi 166).1 (kt_rt 166) ∈ kt_Ts := kt_in2 (h := (4, 3)) rfl rfl
set_option maxRecDepth 100000 in
theorem kt_cw167 : Jvm.Cond.code (kt_nm 167) (kt_cc 167) (kt_mi 167).1 (kt_rt 167) ∈ kt_Ts := kt_in2 (h := (3, 239)) rfl rfl
set_option maxRecDepth 100000 in
theorem kt_cw168 : Jvm.Cond.code (kt_nm 168) (kt_cc 168) (kt_mi 168).1 (kt_rt 168) ∈ kt_Ts := kt_in2 (h := (4, 7)) rfl rfl
set_option maxRecDepth 100000 in
theorem kt_cw169 : Jvm.Cond.code (kt_nm 169) (kt_cc 169) (kt_mi 169).1 (kt_rt 169) ∈ kt_Ts := kt_in2 (h := (2, 69)) rfl rfl
set_option maxRecDepth 100000 in
theorem kt_cw170 : Jvm.Cond.code (kt_nm 170) (kt_cc 170) (kt_mi 170).1 (kt_rt 170) ∈ kt_Ts := kt_in2 (h := (3, 232)) rfl rfl
set_option maxRecDepth 100000 in
theorem kt_cw171 : Jvm.Cond.code (kt_nm 171) (kt_cc 171) (kt_mi 171).1 (kt_rt 171) ∈ kt_Ts := kt_in2 (h := (4, 11)) rfl rfl
set_option maxRecDepth 100000 in
theorem kt_cw172 : Jvm.Cond.code (kt_nm 172) (kt_cc 172) (kt_mi 172).1 (kt_rt 172) ∈ kt_Ts := kt_in2 (h := (2, 120)) rfl rfl
set_option maxRecDepth 100000 in
theorem kt_cw173 : Jvm.Cond.code (kt_nm 173) (kt_cc 173) (kt_mi 173).1 (kt_rt 173) ∈ kt_Ts := kt_in2 (h := (5, 13)) rfl rfl
set_option maxRecDepth 100000 in
theorem kt_cw174 : Jvm.Cond.code (kt_nm 174) (kt_cc 174) (kt_mi 174).1 (kt_rt 174) ∈ kt_Ts := kt_in2 (h := (2, 107)) rfl rfl
set_option maxRecDepth 100000 in
theorem kt_cw175 : Jvm.Cond.code (kt_nm 175) (kt_cc 175) (kt_mi 175).1 (kt_rt 175) ∈ kt_Ts := kt_in2 (h := (6, 98)) rfl rfl
set_option maxRecDepth 100000 in
theorem kt_cw176 : Jvm.Cond.code (kt_nm 176) (kt_cc 176) (kt_mi 176).1 (kt_rt 176) ∈ kt_Ts := kt_in2 (h := (1, 147)) rfl rfl
set_option maxRecDepth 100000 in
theorem kt_cw177 : Jvm.Cond.code (kt_nm 177) (kt_cc 177) (kt_mi 177).1 (kt_rt 177) ∈ kt_Ts := kt_in2 (h := (3, 62)) rfl rfl
set_option maxRecDepth 100000 in
theorem kt_cw178 : Jvm.Cond.code (kt_nm 178) (kt_cc 178) (kt_mi 178).1 (kt_rt 178) ∈ kt_Ts := kt_in2 (h := (6, 86)) rfl rfl
set_option maxRecDepth 100000 in
theorem kt_cw179 : Jvm.Cond.code (kt_nm 179) (kt_cc 179) (kt_mi 179).1 (kt_rt 179) ∈ kt_Ts := kt_in2 (h := (1, 34)) rfl rfl
theorem kt_cwc5 : ∀ y ∈ ([151, 152, 153, 154, 155, 156, 157, 158, 159, 160, 161, 162, 163, 164, 165, 166, 167, 168, 169, 170, 171, 172, 173, 174, 175, 176, 177, 178, 179] : List Nat), Jvm.Cond.code (kt_nm y) (kt_cc y) (kt_mi y).1 (kt_rt y) ∈ kt_Ts := List.forall_mem_cons.mpr ⟨kt_cw151, List.forall_mem_cons.mpr ⟨kt_cw152, List.forall_mem_cons.mpr ⟨kt_cw153, List.forall_mem_cons.mpr ⟨kt_cw154, List.forall_mem_cons.mpr ⟨kt_cw155, List.forall_mem_cons.mpr ⟨kt_cw156, List.forall_mem_cons.mpr ⟨kt_cw157, List.forall_mem_cons.mpr ⟨kt_cw158, List.forall_mem_cons.mpr ⟨kt_cw159, List.forall_mem_cons.mpr ⟨kt_cw160, List.forall_mem_cons.mpr ⟨kt_cw161, List.forall_mem_cons.mpr ⟨kt_cw162, List.forall_mem_cons.mpr ⟨kt_cw163, List.forall_mem_cons.mpr ⟨kt_cw164, List.forall_mem_cons.mpr ⟨kt_cw165, List.forall_mem_cons.mpr ⟨kt_cw166, List.forall_mem_cons.mpr ⟨kt_cw167, List.forall_mem_cons.mpr ⟨kt_cw168, List.forall_mem_cons.mpr ⟨kt_cw169, List.forall_mem_cons.mpr ⟨kt_cw170, List.forall_mem_cons.mpr ⟨kt_cw171, List.forall_mem_cons.mpr ⟨kt_cw172, List.forall_mem_cons.mpr ⟨kt_cw173, List.forall_mem_cons.mpr ⟨kt_cw174, List.forall_mem_cons.mpr ⟨kt_cw175, List.forall_mem_cons.mpr ⟨kt_cw176, List.forall_mem_cons.mpr ⟨kt_cw177, List.forall_mem_cons.mpr ⟨kt_cw178, List.forall_mem_cons.mpr ⟨kt_cw179, fun _ h => absurd h List.not_mem_nil⟩⟩⟩⟩⟩⟩⟩⟩⟩⟩⟩⟩⟩⟩⟩⟩⟩⟩⟩⟩⟩⟩⟩⟩⟩⟩⟩⟩⟩
